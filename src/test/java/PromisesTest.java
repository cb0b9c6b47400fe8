/** Each promise of the document by hand: ordinary inputs, the edges that it names, wrong inputs. */
public final class PromisesTest {
    private static final int NONE = -1, BAD = -2, STATE = -3, FULL = -4;
    private static final int NOTHING = -11, CAST = -12, PLACE = -13, SIZE = -14;
    private static final long NO = Long.MIN_VALUE;
    private static final int LEAST = Integer.MIN_VALUE, MOST = Integer.MAX_VALUE;

    private static final Check CHECK = new Check();
    private static RailBumpers x;

    private static void due(String call, long want, long got) {
        CHECK.due(call, want, got);
    }

    private static void begin(String name) {
        CHECK.part(name);
        x = new RailBumpers();
    }

    /** Calls in short: those of a text's clauses, v i,s for a new speed, m i,w for a new mass. */
    private static void script(String calls) {
        for (String call : calls.split(";")) {
            String[] words = call.substring(1).split(",");
            int first = words[0].equals("n") ? -1 : Integer.parseInt(words[0]);
            switch (call.charAt(0)) {
                case 'b' -> x.bumper(first, Integer.parseInt(words[1]), Integer.parseInt(words[2]));
                case 'e' -> x.spring(first);
                case 'l' -> x.wall(0, first);
                case 'r' -> x.wall(1, first);
                case 'g' -> x.go(first);
                case 'v' -> x.renew(first, 1, Integer.parseInt(words[1]));
                default -> x.renew(first, 0, Integer.parseInt(words[1]));
            }
        }
    }

    private static int readText(String text) {
        for (int i = 0; i < text.length(); i++) {
            due("feed " + i + " of " + text, i + 1, x.feed(text.charAt(i)));
        }
        return x.read();
    }

    private static void dueFraction(String what, long above, long below, long gotAbove, long gotBelow) {
        due(what + " above", above, gotAbove);
        due(what + " below", below, gotBelow);
    }

    private static void duePlace(int bumper, long above, long below) {
        dueFraction("place of " + bumper, above, below, x.of(bumper, 0, 0), x.of(bumper, 0, 1));
    }

    private static void dueSpeed(int bumper, long above, long below) {
        dueFraction("speed of " + bumper, above, below, x.of(bumper, 1, 0), x.of(bumper, 1, 1));
    }

    /** All that can be asked about what an object holds. */
    private static String snapshot() {
        StringBuilder all = new StringBuilder();
        for (int what = 0; what < 6; what++) {
            all.append(x.told(what)).append(' ');
        }
        for (int i = 0; i < 24; i++) {
            all.append(x.of(i / 4, i % 4 / 2, i % 2)).append(' ').append(x.of(i / 4, 2, 0)).append(' ');
        }
        for (int what = 0; what < 4; what++) {
            all.append(x.count(what)).append(' ').append(x.after(what)).append(' ');
        }
        all.append(x.looked()).append(' ').append(x.fits(0, 0)).append(' ');
        for (int i = 0; i < 360; i++) {
            all.append(x.peek(i / 60, i % 60)).append(' ');
        }
        return all.toString();
    }

    private static void newObject() {
        begin("1 new object");
        for (int what = 0; what < 7; what++) {
            due("told(" + what + ")", new int[] {0, 4, 4, 4, 0, 0, NONE}[what], x.told(what));
        }
        for (int what = 0; what < 4; what++) {
            due("count(" + what + ")", 0, x.count(what));
        }
        for (int tape = 0; tape < 6; tape++) {
            due("item(" + tape + ", 0, 1)", NOTHING, x.item(tape, 0, 1));
        }
        due("undo()", STATE, x.undo());
        RailBumpers other = x;
        script("b10,1,3;e2;ln");
        x.tape(0, 0, 3);
        x = new RailBumpers();
        due("told(0) of another", 0, x.told(0));
        due("told(1) of another", 4, x.told(1));
        due("peek(0, 0) of another", NO, x.peek(0, 0));
        due("told(0) of the first", 1, other.told(0));
        due("NONE", -1, RailBumpers.NONE);
        due("BAD", -2, RailBumpers.BAD);
        due("STATE", -3, RailBumpers.STATE);
        due("FULL", -4, RailBumpers.FULL);
        due("NO", Long.MIN_VALUE, RailBumpers.NO);
    }

    private static void bumper() {
        begin("2 bumper");
        due("first", 0, x.bumper(0, 1, -9));
        due("second", 1, x.bumper(1, 9, 9));
        for (int place : new int[] {-1, 100, LEAST, MOST}) {
            due("place " + place, BAD, x.bumper(place, 1, 0));
        }
        for (int mass : new int[] {0, 10, -1, LEAST, MOST}) {
            due("mass " + mass, BAD, x.bumper(50, mass, 0));
        }
        for (int speed : new int[] {-10, 10, LEAST, MOST}) {
            due("speed " + speed, BAD, x.bumper(50, 1, speed));
        }
        due("at the last one's place", STATE, x.bumper(1, 1, 0));
        due("left of it", STATE, x.bumper(0, 1, 0));
        due("bad ahead of state", BAD, x.bumper(1, 0, 0));
        due("told(0)", 2, x.told(0));
        script("b2,1,0;b3,1,0;b4,1,0");
        due("sixth", 5, x.bumper(5, 4, 3));
        due("state ahead of full", STATE, x.bumper(5, 1, 0));
        due("bad ahead of full", BAD, x.bumper(100, 1, 0));
        due("seventh", FULL, x.bumper(99, 1, 0));
        due("told(0)", 6, x.told(0));
        duePlace(5, 5, 1);
        dueSpeed(5, 3, 1);
        due("mass", 4, x.of(5, 2, 0));

        begin("2 bumper behind a fraction");
        script("b10,1,3;b20,2,-1;g1");
        due("17 is not above 35/2", STATE, x.bumper(17, 1, 0));
        due("18 is", 2, x.bumper(18, 1, 0));
        due("99 is the last place", 3, x.bumper(99, 1, 0));

        begin("2 bumper where the difference is over");
        script("b24,7,8;b40,6,-7;b68,4,-7;g1;g3;g2;e2;l1;g2;g1;l1;e2;v0,0;g2;r2;v0,-6;g1");
        CHECK.due("the last one is left of 98", x.of(2, 0, 0) / x.of(2, 0, 1) < 98);
        due("over", STATE, x.bumper(99, 1, 0));
        due("told(0)", 3, x.told(0));
    }

    private static void renew() {
        begin("3 renew");
        due("none yet", NONE, x.renew(0, 0, 1));
        script("b10,1,3;b20,2,-1");
        due("mass", 2, x.renew(1, 0, 9));
        due("mass is", 9, x.of(1, 2, 0));
        due("speed", 2, x.renew(0, 1, -9));
        dueSpeed(0, -9, 1);
        due("mass 1", 2, x.renew(1, 0, 1));
        due("speed 9", 2, x.renew(1, 1, 9));
        dueSpeed(1, 9, 1);
        String before = snapshot();
        due("bumper -1", NONE, x.renew(-1, 0, 1));
        due("bumper 2", NONE, x.renew(2, 0, 1));
        due("bumper far off", NONE, x.renew(MOST, 0, 1));
        due("what -1", NONE, x.renew(0, -1, 1));
        due("what 2", NONE, x.renew(0, 2, 1));
        due("none ahead of bad", NONE, x.renew(0, 2, 100));
        due("mass 0", BAD, x.renew(0, 0, 0));
        due("mass 10", BAD, x.renew(0, 0, 10));
        due("speed -10", BAD, x.renew(0, 1, -10));
        due("speed 10", BAD, x.renew(0, 1, 10));
        CHECK.due("refusals change nothing", before.equals(snapshot()));
        script("g1;v0,4");
        due("a fraction's denominator goes", 1, x.of(0, 1, 1));
    }

    private static void spring() {
        begin("4 spring");
        due("from 4 to 0", 4, x.spring(0));
        due("from 0 to 3", 0, x.spring(3));
        due("-1", BAD, x.spring(-1));
        due("5", BAD, x.spring(5));
        due("far off", BAD, x.spring(LEAST));
        due("told(1)", 3, x.told(1));
        due("from 3 to 4", 3, x.spring(4));
        script("ln;rn;b0,1,1;b10,1,-1");
        due("springy: strikes", 1, x.told(4));
        due("springy: they part", -1, x.behind(0, -1, 1, 0));
        x.spring(0);
        due("not springy: they stay together", 0, x.behind(0, -1, 1, 0));
        due("not springy: they stay together", 0, x.behind(1, -1, 1, 0));
        x.spring(2);
        dueFraction("half springy", -1, 2, x.behind(0, -1, 1, 0), x.behind(0, -1, 1, 1));
    }

    private static void wall() {
        begin("5 wall");
        due("left none", 4, x.wall(0, -1));
        due("left was none", -5, x.wall(0, 0));
        due("left was 0", 0, x.wall(0, 4));
        due("right", 4, x.wall(1, 2));
        due("right was 2", 2, x.wall(1, 3));
        due("side -1", NONE, x.wall(-1, 0));
        due("side 2", NONE, x.wall(2, 0));
        due("none ahead of bad", NONE, x.wall(2, 9));
        due("q -2", BAD, x.wall(0, -2));
        due("q 5", BAD, x.wall(1, 5));
        due("told(2)", 4, x.told(2));
        due("told(3)", 3, x.told(3));
        script("b50,1,1");
        dueFraction("behind the right wall", -3, 4, x.behind(0, 0, 1, 0), x.behind(0, 0, 1, 1));

        begin("5 wall, a bumper beyond the left one");
        script("ln;rn;b0,1,-1;b3,1,-4;g1");
        duePlace(1, -1, 1);
        due("left", STATE, x.wall(0, 4));
        due("bad ahead of state", BAD, x.wall(0, 5));
        due("left none", -5, x.wall(0, -1));
        due("right", -5, x.wall(1, 4));
        due("told(2)", -5, x.told(2));

        begin("5 wall, a bumper beyond the right one");
        script("rn;b95,1,4;b99,1,1;g1");
        duePlace(1, 301, 3);
        due("right", STATE, x.wall(1, 0));
        due("right none", -5, x.wall(1, -1));
        due("left", 4, x.wall(0, 1));

        begin("5 wall, one of three bumpers is beyond");
        script("ln;rn;b0,1,-1;b50,1,1;b60,1,-1;g1");
        duePlace(0, -5, 1);
        due("left", STATE, x.wall(0, 4));
        due("right", -5, x.wall(1, 4));
        begin("5 wall, one of three bumpers is beyond");
        script("ln;rn;b50,1,1;b60,1,-1;b99,1,1;g1");
        duePlace(2, 104, 1);
        due("right", STATE, x.wall(1, 4));
        due("left", -5, x.wall(0, 4));

        begin("5 wall, bumpers just at both places");
        script("ln;rn;b5,1,-1;b10,1,-2;g1");
        duePlace(0, 0, 1);
        due("left", -5, x.wall(0, 2));
        begin("5 wall, bumpers just at both places");
        script("ln;rn;b90,1,2;b95,1,1;g1");
        duePlace(1, 100, 1);
        due("right", -5, x.wall(1, 2));

        begin("5 wall, the difference is over");
        script("b27,6,-2;b41,4,-8;b68,9,-7;g3;l1;g2;g1;l2;g1;v2,0;g1;v2,4;l3;v1,9;r0;l2;v2,7;v1,-6;v2,7;g2");
        due("right", STATE, x.wall(1, 4));
        due("told(3)", 0, x.told(3));
        due("left", 2, x.wall(0, 4));
        due("right none", 0, x.wall(1, -1));
    }

    private static void go() {
        begin("6 go");
        due("no bumpers", 0, x.go(20));
        script("b10,1,3;b20,2,-1");
        due("-1", BAD, x.go(-1));
        due("21", BAD, x.go(21));
        due("far off", BAD, x.go(MOST));
        due("none", 0, x.go(0));
        duePlace(0, 10, 1);
        due("one", 1, x.go(1));
        duePlace(0, 35, 2);
        duePlace(1, 35, 2);
        dueSpeed(0, -7, 3);
        dueSpeed(1, 5, 3);
        due("the next is now the first", 0, x.where(0));
        dueFraction("time begins anew", 15, 2, x.time(0, 0), x.time(0, 1));
        due("two", 2, x.go(2));
        duePlace(1, 100, 1);
        due("masses stay", 2, x.of(1, 2, 0));
        due("twenty", 20, x.go(20));

        begin("6 go, fewer");
        script("rn;b0,1,0;b10,1,0;b20,3,-1");
        due("nine of ten", 9, x.go(10));
        due("then none", 0, x.go(1));
        due("told(4)", 0, x.told(4));
        due("told(5)", 0, x.told(5));

        begin("6 go, fewer by an over");
        script("b10,2,5;b30,3,-4;b50,1,0;b70,7,-9;e3");
        due("six", 6, x.go(20));
        due("then none", 0, x.go(20));
        due("END stays", 2, x.told(5));
    }

    private static void feed() {
        begin("7 feed");
        due("-1", BAD, x.feed(-1));
        due("128", BAD, x.feed(128));
        due("0", 1, x.feed(0));
        for (int i = 2; i <= 100; i++) {
            due("sign " + i, i, x.feed(127));
        }
        due("bad ahead of full", BAD, x.feed(300));
        due("full", FULL, x.feed(98));
        due("count(3)", 100, x.count(3));
        due("a sign of 0 begins nothing", -10, x.read());
        due("count(3)", 0, x.count(3));
        due("again", 1, x.feed(101));
    }

    private static void read() {
        String[] texts = {"", "x", "b", "b1", "b1,", "b123", "b1;", "b1,2", "b1,22", "b1,2,", "b1,2,-", "b1,2,--3",
            "b1,2,34", "b1 ,2,3", "e", "e4;", "e4;;", "e4,", "e45", "e-1", "en", "l", "l-", "lnn", "r44", "g", "gn",
            "g123", "g-1", "g1,", "E4", " e4", "e4 ", "e4;b1,2,3;q", ";", "n", "4", "b,1,1", "b1,,1", "b1,-1,1"};
        int[] faults = {0, 0, 1, 2, 3, 3, 2, 4, 4, 5, 6, 6,
            6, 2, 1, 3, 3, 2, 2, 1, 1, 1, 1, 2, 2, 1, 1,
            3, 1, 2, 0, 0, 2, 10, 0, 0, 0, 1, 3, 3};
        for (int i = 0; i < texts.length; i++) {
            begin("8 read, a fault");
            String before = snapshot();
            due("read of " + texts[i], -10 - faults[i], readText(texts[i]));
            CHECK.due("nothing of " + texts[i] + " is done", before.equals(snapshot()));
        }
        String[] good = {"e0", "l0", "r4", "ln;l3", "rn;rn", "g0", "g20", "g21", "g99", "g00", "e5", "l5", "r9", "e9;e1",
            "b5,0,1", "b5,1,1", "b05,1,-9", "b0,9,9;b99,1,-0", "b50,1,1;b40,1,1;e2", "b10,1,3;b20,2,-1;g1",
            "b1,1,1;b2,1,1;b3,1,1;b4,1,1;b5,1,1;b6,1,1;b7,1,1;e1"};
        int[] done = {1, 1, 1, 2, 2, 1, 1, 0, 0, 1, 0, 0, 0, 1,
            0, 1, 1, 2, 2, 3, 7};
        for (int i = 0; i < good.length; i++) {
            begin("8 read");
            due("read of " + good[i], done[i], readText(good[i]));
            due("count(3)", 0, x.count(3));
        }
        readMore();
    }

    private static void readMore() {
        String twelve = "e0;e1;e2;e3;e4;e0;e1;e2;e3;e4;e0;e1";
        begin("8 read, twelve clauses");
        due("twelve", 12, readText(twelve));
        due("told(1)", 1, x.told(1));
        due("; behind the twelfth", -10 - 35, readText(twelve + ";"));
        due("a thirteenth", -10 - 35, readText(twelve + ";e3"));
        due("a sign behind the twelfth", -10 - 35, readText(twelve + "0"));
        due("told(1)", 1, x.told(1));

        begin("8 read, a whole text that ends too early");
        due("the fault is the end", -10 - 100, readText("b99,9,-9;".repeat(11) + "e"));

        begin("8 read, what is done");
        due("read", 7, readText("b10,1,3;b20,2,-1;g1;ln;r2;b18,5,-4;e3;b18,1,1"));
        duePlace(0, 35, 2);
        dueSpeed(0, -7, 3);
        duePlace(2, 18, 1);
        dueSpeed(2, -4, 1);
        due("mass", 5, x.of(2, 2, 0));
        due("told(0)", 3, x.told(0));
        due("told(1)", 3, x.told(1));
        due("told(2)", -5, x.told(2));
        due("told(3)", 2, x.told(3));

        begin("8 read, a wall where a bumper is beyond");
        due("read", 6, readText("ln;rn;b0,1,-1;b3,1,-4;g1;l4;r3"));
        due("told(2)", -5, x.told(2));
        due("told(3)", 3, x.told(3));
    }

    private static void of() {
        begin("9 of");
        due("none", NO, x.of(0, 0, 0));
        script("b10,1,3;b20,2,-1;g1");
        duePlace(1, 35, 2);
        dueSpeed(1, 5, 3);
        due("mass", 2, x.of(1, 2, 0));
        due("mass by", 1, x.of(1, 2, 1));
        for (int n : new int[] {-1, 2, 6, LEAST, MOST}) {
            due("bumper " + n, NO, x.of(n, 0, 0));
        }
        for (int n : new int[] {-1, 3, LEAST, MOST}) {
            due("what " + n, NO, x.of(0, n, 0));
        }
        for (int n : new int[] {-1, 2, LEAST, MOST}) {
            due("part " + n, NO, x.of(0, 0, n));
            due("part " + n + " of a mass", NO, x.of(0, 2, n));
        }
    }

    private static void told() {
        begin("10 told");
        script("b10,1,3;b20,2,-1;e2;l3;rn");
        due("0", 2, x.told(0));
        due("1", 2, x.told(1));
        due("2", 3, x.told(2));
        due("3", -5, x.told(3));
        script("ln;r1");
        due("2", -5, x.told(2));
        due("3", 1, x.told(3));
        for (int what : new int[] {-1, 6, LEAST, MOST}) {
            due("what " + what, NONE, x.told(what));
        }
        begin("10 told, END 0");
        script("rn;b0,1,0;b10,1,0;b20,3,-1");
        due("4", 9, x.told(4));
        due("5", 0, x.told(5));
        script("e2");
        due("4 by another spring", 13, x.told(4));
        begin("10 told, END 1");
        script("b50,1,9");
        due("4", 20, x.told(4));
        due("5", 1, x.told(5));
        script("r0");
        due("4 by another wall", 1, x.told(4));
        due("5", 0, x.told(5));
        begin("10 told, END 2");
        script("b10,2,5;b30,3,-4;b50,1,0;b70,7,-9;e3");
        due("4", 6, x.told(4));
        due("5", 2, x.told(5));
    }

    private static void push() {
        begin("11 push");
        script("b10,1,3;b20,2,-1;g1");
        dueFraction("push", 1, 1, x.push(0, 0), x.push(0, 1));
        dueFraction("energy", 11, 1, x.push(1, 0), x.push(1, 1));
        script("m0,2");
        dueFraction("push", -4, 3, x.push(0, 0), x.push(0, 1));
        dueFraction("energy", 148, 9, x.push(1, 0), x.push(1, 1));
        for (int n : new int[] {-1, 2, LEAST, MOST}) {
            due("what " + n, NO, x.push(n, 0));
            due("part " + n, NO, x.push(0, n));
        }
        begin("11 push, over");
        script("b10,2,5;b30,3,-4;b50,1,0;b70,7,-9;e3;g6");
        CHECK.due("push is told", x.push(0, 0) != NO && x.push(0, 1) != NO);
        due("energy above", NO, x.push(1, 0));
        due("energy below", NO, x.push(1, 1));
    }

    private static void where() {
        begin("12 where");
        due("none", -5, x.where(0));
        script("b10,1,3;b20,2,-1");
        int[] first = {1, 0, 9, 1};
        for (int k = 0; k < first.length; k++) {
            due("where(" + k + ")", first[k], x.where(k));
        }
        due("19", 1, x.where(19));
        due("20", -5, x.where(20));
        due("far off", -5, x.where(MOST));
        due("-1", NONE, x.where(-1));
        due("far below", NONE, x.where(LEAST));

        begin("12 where, at the same time the first one");
        script("b1,1,-1;b20,1,1;b22,1,-1;b99,1,1");
        due("the left wall", 0, x.where(0));
        due("the neighbours", 2, x.where(1));
        due("the right wall", 9, x.where(2));
        dueFraction("time", 1, 1, x.time(2, 0), x.time(2, 1));
        begin("12 where, six bumpers");
        script("b0,1,0;b10,1,0;b20,1,0;b30,1,0;b40,1,1;b42,1,-1");
        due("the last neighbours", 5, x.where(0));
    }

    private static void time() {
        begin("13 time");
        due("none", NO, x.time(0, 0));
        script("b10,1,3;b20,2,-1");
        dueFraction("0", 5, 2, x.time(0, 0), x.time(0, 1));
        dueFraction("1", 10, 1, x.time(1, 0), x.time(1, 1));
        dueFraction("3", 105, 2, x.time(3, 0), x.time(3, 1));
        due("-1", NO, x.time(-1, 0));
        due("20", NO, x.time(20, 0));
        due("part -1", NO, x.time(0, -1));
        due("part 2", NO, x.time(0, 2));
        begin("13 time, no more");
        script("rn;b0,1,0;b10,1,0;b20,3,-1");
        CHECK.due("8", x.time(8, 0) != NO);
        due("9", NO, x.time(9, 0));
    }

    private static void behind() {
        begin("14 behind");
        script("b10,1,3;b20,2,-1");
        dueFraction("place", 35, 2, x.behind(0, 0, 0, 0), x.behind(0, 0, 0, 1));
        dueFraction("speed", 5, 3, x.behind(1, 0, 1, 0), x.behind(1, 0, 1, 1));
        dueFraction("speed behind a wall", 7, 3, x.behind(0, 1, 1, 0), x.behind(0, 1, 1, 1));
        for (int i = 0; i < 8; i++) {
            due("behind all", x.behind(i / 4, 19, i % 4 / 2, i % 2), x.behind(i / 4, -1, i % 4 / 2, i % 2));
        }
        due("bumper -1", NO, x.behind(-1, 0, 0, 0));
        due("bumper 2", NO, x.behind(2, 0, 0, 0));
        due("k -2", NO, x.behind(0, -2, 0, 0));
        due("k 20", NO, x.behind(0, 20, 0, 0));
        due("k far off", NO, x.behind(0, MOST, 0, 0));
        due("what -1", NO, x.behind(0, 0, -1, 0));
        due("what 2", NO, x.behind(0, 0, 2, 0));
        due("part -1", NO, x.behind(0, 0, 0, -1));
        due("part 2", NO, x.behind(0, 0, 0, 2));
        duePlace(0, 10, 1);
        begin("14 behind all, if there is none");
        script("b10,1,0");
        due("place", 10, x.behind(0, -1, 0, 0));
        due("k 0", NO, x.behind(0, 0, 0, 0));
        begin("14 behind all, up to an over");
        script("b10,2,5;b30,3,-4;b50,1,0;b70,7,-9;e3");
        for (int i = 0; i < 16; i++) {
            due("behind all", x.behind(i / 4, 5, i % 4 / 2, i % 2), x.behind(i / 4, -1, i % 4 / 2, i % 2));
        }
    }

    private static void then() {
        begin("15 then");
        dueFraction("no bumpers", 0, 1, x.then(0, 0), x.then(0, 1));
        script("rn;l2;b50,4,-3");
        dueFraction("push", 6, 1, x.then(0, 0), x.then(0, 1));
        dueFraction("energy", 9, 1, x.then(1, 0), x.then(1, 1));
        due("push now", -12, x.push(0, 0));
        for (int n : new int[] {-1, 2, LEAST, MOST}) {
            due("what " + n, NO, x.then(n, 0));
            due("part " + n, NO, x.then(0, n));
        }
        begin("15 then, over");
        script("b10,2,5;b30,3,-4;b50,1,0;b70,7,-9;e3");
        CHECK.due("push", x.then(0, 0) != NO);
        due("energy", NO, x.then(1, 0));
        due("energy now", 2 * 25 + 3 * 16 + 7 * 81, x.push(1, 0));
    }

    private static void often() {
        begin("16 often");
        due("none", NONE, x.often(0));
        script("rn;b0,1,0;b10,1,0;b20,3,-1");
        due("0", 6, x.often(0));
        due("1", 7, x.often(1));
        due("2", 3, x.often(2));
        due("-1", NONE, x.often(-1));
        due("3", NONE, x.often(3));
        begin("16 often, walls");
        script("b50,1,9");
        due("both walls", 20, x.often(0));
        begin("16 often, the right wall is the last one's");
        script("b10,1,0;b50,1,1;r0");
        due("0", 0, x.often(0));
        due("1", 1, x.often(1));
        begin("16 often, the left wall is the first one's");
        script("b10,1,-1;b50,1,0;l0");
        due("0", 1, x.often(0));
        due("1", 0, x.often(1));
    }

    private static void at() {
        begin("17 at");
        due("none", NO, x.at(0, 0, 0));
        script("ln;rn;b0,1,1;b10,1,-1");
        int[] times = {0, 4, 5, 7, 99};
        int[] places = {0, 4, 5, 3, -89};
        for (int i = 0; i < times.length; i++) {
            dueFraction("at " + times[i], places[i], 1, x.at(0, times[i], 0), x.at(0, times[i], 1));
        }
        due("the other", 99, x.at(1, 99, 0));
        due("bumper -1", NO, x.at(-1, 0, 0));
        due("bumper 2", NO, x.at(2, 0, 0));
        due("t -1", NO, x.at(0, -1, 0));
        due("t 100", NO, x.at(0, 100, 0));
        due("part -1", NO, x.at(0, 0, -1));
        due("part 2", NO, x.at(0, 0, 2));
        begin("17 at, END 1");
        script("b50,1,9");
        due("between strikes", 60, x.at(0, 10, 0));
        CHECK.due("one is above 99", x.at(0, 99, 0) != NO);
        begin("17 at, END 1 and none above");
        script("rn;e0;b0,1,0;b10,1,0;b20,3,-1");
        due("END", 1, x.told(5));
        due("9", 0, x.at(0, 9, 0));
        due("99", NO, x.at(0, 99, 0));
        begin("17 at, END 1 and the last just then");
        script("b10,1,-6;b24,1,8");
        dueFraction("time", 85, 1, x.time(19, 0), x.time(19, 1));
        CHECK.due("84", x.at(0, 84, 0) != NO);
        due("85", NO, x.at(0, 85, 0));
        begin("17 at, END 2");
        script("b10,2,5;b30,3,-4;b50,1,0;b70,7,-9;e3");
        due("1", 15, x.at(0, 1, 0));
        due("99", NO, x.at(0, 99, 0));
        begin("17 at, over in the place");
        script("b39,9,1;b67,8,-1;g2;v1,-2;e3;g2;e2;r0;v1,-6;l0;e4");
        due("END", 0, x.told(5));
        due("4", NO, x.at(1, 4, 0));
        CHECK.due("0", x.at(1, 0, 0) != NO);
    }

    private static void see() {
        begin("18 see");
        due("one", 1, x.see(0, 9));
        due("the same", 2, x.see(0, 9));
        due("last ones", 3, x.see(19, 5));
        due("k 20", NONE, x.see(20, 0));
        due("k -2", NONE, x.see(-2, 0));
        for (int where : new int[] {-1, 6, 7, 8, 10, LEAST, MOST}) {
            due("where " + where, NONE, x.see(0, where));
        }
        due("four", 4, x.see(1, 0));
        due("five", 5, x.see(2, 0));
        due("six", FULL, x.see(3, 0));
        due("none ahead of full", NONE, x.see(3, 6));
        due("count(0)", 5, x.count(0));
        due("cleared, whatever the rest is", 0, x.see(-1, 77));
        due("count(0)", 0, x.count(0));
        due("again", 1, x.see(3, 0));
    }

    private static void fits() {
        begin("19 fits");
        due("none", NONE, x.fits(0, 0));
        script("ln;rn;b0,1,1;b10,1,-1");
        due("without seen", 11, x.fits(0, 0));
        due("without seen, the least", -5, x.fits(0, 1));
        x.see(0, 1);
        due("0 .. 5 strike", 6, x.fits(0, 0));
        due("the least", 0, x.fits(0, 1));
        due("-5 .. 0 of the other", 6, x.fits(1, 0));
        due("the least", -5, x.fits(1, 1));
        x.see(1, 1);
        due("there is no second one", 0, x.fits(0, 0));
        due("the least", -10, x.fits(0, 1));
        x.see(-1, 0);
        x.see(0, 9);
        due("not there", 0, x.fits(1, 0));
        due("bumper -1", NONE, x.fits(-1, 0));
        due("bumper 2", NONE, x.fits(2, 0));
        due("what -1", NONE, x.fits(0, -1));
        due("what 2", NONE, x.fits(0, 2));
        dueSpeed(0, 1, 1);
        due("told(4) stays", 1, x.told(4));
        begin("19 fits, the twentieth strike");
        script("b50,1,9");
        x.see(19, 0);
        due("to the right first", 5, x.fits(0, 0));
        due("the least", 1, x.fits(0, 1));
        x.see(18, 9);
        due("both", 5, x.fits(0, 0));
    }

    private static void odds() {
        begin("20 odds");
        dueFraction("no bumpers, 0", 1, 1, x.odds(0, 0), x.odds(0, 1));
        dueFraction("no bumpers, 1", 0, 1, x.odds(1, 0), x.odds(1, 1));
        script("rn;b0,1,0;b10,1,0;b20,3,-1");
        int[] strikes = new int[5];
        for (int q = 0; q < 5; q++) {
            x.spring(q);
            strikes[q] = x.told(4);
        }
        x.spring(3);
        boolean[] met = new boolean[6];
        for (int n = 0; n <= 20; n++) {
            int hits = 0;
            for (int q = 0; q < 5; q++) {
                hits += strikes[q] >= n ? 1 : 0;
            }
            met[hits] = true;
            int by = hits == 0 || hits == 5 ? 1 : 5;
            dueFraction("odds of " + n, hits == 5 ? 1 : hits, by, x.odds(n, 0), x.odds(n, 1));
        }
        CHECK.due("all and some were met", met[5] && (met[1] || met[2] || met[3] || met[4]));
        due("the spring stays", 3, x.told(1));
        due("n -1", NO, x.odds(-1, 0));
        due("n 21", NO, x.odds(21, 0));
        due("part -1", NO, x.odds(0, -1));
        due("part 2", NO, x.odds(0, 2));
    }

    private static void mean() {
        begin("21 mean");
        due("none", NO, x.mean(0));
        script("b10,1,3");
        dueFraction("one", 1, 1, x.mean(0), x.mean(1));
        script("b20,2,3");
        dueFraction("two", 3, 2, x.mean(0), x.mean(1));
        script("b30,2,3");
        dueFraction("three", 5, 3, x.mean(0), x.mean(1));
        script("b40,9,3");
        dueFraction("four", 7, 2, x.mean(0), x.mean(1));
        due("part -1", NO, x.mean(-1));
        due("part 2", NO, x.mean(2));
    }

    private static void event() {
        begin("22 event");
        due("no bumper", NONE, x.event(0, 0));
        script("b10,1,3;b20,2,-1");
        due("a bumper", 1, x.event(0, 1));
        due("bumper 2", NONE, x.event(0, 2));
        due("bumper -1", NONE, x.event(0, -1));
        due("what 4", NONE, x.event(4, 0));
        due("what -2", NONE, x.event(-2, 0));
        due("turn", 2, x.event(1, 0));
        due("turn 1", BAD, x.event(1, 1));
        due("turn -1", BAD, x.event(1, -1));
        due("spring 0", 3, x.event(2, 0));
        due("spring 4", 4, x.event(2, 4));
        due("spring 5", BAD, x.event(2, 5));
        due("spring -1", BAD, x.event(2, -1));
        due("spring 9", BAD, x.event(2, 9));
        due("walls 0", 5, x.event(3, 0));
        due("walls 4", 6, x.event(3, 4));
        due("walls 9", 7, x.event(3, 9));
        due("walls 5", BAD, x.event(3, 5));
        due("walls 8", BAD, x.event(3, 8));
        due("walls -1", BAD, x.event(3, -1));
        due("eighth", 8, x.event(1, 0));
        due("ninth", FULL, x.event(1, 0));
        due("none ahead of full", NONE, x.event(0, 2));
        due("bad ahead of full", BAD, x.event(2, 5));
        due("count(1)", 8, x.count(1));
        due("cleared, whatever the rest is", 0, x.event(-1, 77));
        due("count(1)", 0, x.count(1));
    }

    private static void dueAfter(String events, int strikes, int end, int where) {
        due(events + ": strikes", strikes, x.after(0));
        due(events + ": END", end, x.after(1));
        due(events + ": WHERE", where, x.after(2));
    }

    private static void after() {
        begin("23 after");
        dueAfter("no bumpers", 0, 0, -5);
        script("ln;rn;b0,1,1;b10,1,-1");
        dueAfter("no events", 1, 0, 1);
        x.event(0, 0);
        dueAfter("one stands", 1, 0, 1);
        x.event(0, 1);
        dueAfter("both stand", 0, 0, -5);
        x.event(-1, 0);
        x.event(1, 0);
        dueAfter("turned", 0, 0, -5);
        x.event(1, 0);
        dueAfter("turned twice", 1, 0, 1);
        x.event(3, 4);
        dueAfter("walls", 20, 1, 1);
        x.event(1, 0);
        dueAfter("walls, turned", 20, 1, 0);
        x.event(3, 9);
        dueAfter("no walls again", 0, 0, -5);
        x.event(-1, 0);
        script("b30,1,-1");
        x.event(2, 0);
        dueAfter("no spring: the three strike on and on", 20, 1, 1);
        for (int what : new int[] {-1, 3, LEAST, MOST}) {
            due("what " + what, NONE, x.after(what));
        }
        due("the spring stays", 4, x.told(1));
        due("the walls stay", -5, x.told(2));
        dueSpeed(0, 1, 1);
        begin("23 after, one stands");
        script("b50,1,9");
        dueAfter("no events", 20, 1, 9);
        x.event(1, 0);
        dueAfter("turned", 20, 1, 0);
        x.event(0, 0);
        dueAfter("stands", 0, 0, -5);
        afterBeyond();
    }

    private static void afterBeyond() {
        begin("23 after, a bumper beyond the left wall's place");
        script("ln;rn;b0,1,-1;b3,1,-4;g1");
        x.event(3, 0);
        dueAfter("to the left", 0, 0, -5);
        x.event(1, 0);
        dueAfter("to the right: both, the wall, both, the wall", 4, 0, 1);
        begin("23 after, a bumper beyond the right wall's place");
        script("ln;rn;b95,1,4;b99,1,1;g1");
        x.event(3, 0);
        dueAfter("to the right", 0, 0, -5);
        x.event(1, 0);
        dueAfter("to the left: both, the wall, both, the wall", 4, 0, 1);
        begin("23 after, the difference to the right wall's place is over");
        script("b27,6,-2;b41,4,-8;b68,9,-7;g3;l1;g2;g1;l2;g1;v2,0;g1;v2,4;l3;v1,9;r0;l2;v2,7;v1,-6;v2,7;g2");
        due("right", STATE, x.wall(1, 4));
        script("v0,0;v1,0;v2,9");
        dueAfter("how long it is to the wall is over, too", 0, 2, -5);
        x.event(3, 9);
        dueAfter("the wall stays as it was", 0, 2, -5);
        x.wall(1, -1);
        dueAfter("without the wall", 0, 0, -5);
        begin("23 after, END 2");
        script("b10,2,5;b30,3,-4;b50,1,0;b70,7,-9");
        x.event(2, 3);
        dueAfter("three quarters", 6, 2, 1);
    }

    private static void book() {
        begin("24 book");
        due("one", 1, x.book(0, 9));
        due("the same", 2, x.book(0, 9));
        due("k 20", NONE, x.book(20, 0));
        due("k -2", NONE, x.book(-2, 0));
        for (int where : new int[] {-1, 6, 8, 10, LEAST, MOST}) {
            due("where " + where, NONE, x.book(0, where));
        }
        for (int n = 3; n <= 8; n++) {
            due("row " + n, n, x.book(19, n - 3));
        }
        due("ninth", FULL, x.book(0, 0));
        due("none ahead of full", NONE, x.book(20, 0));
        due("count(2)", 8, x.count(2));
        due("cleared, whatever the rest is", 0, x.book(-1, 77));
        due("count(2)", 0, x.count(2));
    }

    private static void looked() {
        begin("25 looked");
        due("empty", -5, x.looked());
        x.book(0, 1);
        due("no strikes", 0, x.looked());
        script("b10,1,3;b20,2,-1");
        due("so", -5, x.looked());
        x.book(19, 1);
        x.book(2, 9);
        x.book(1, 0);
        due("all so", -5, x.looked());
        x.book(3, 0);
        x.book(3, 9);
        due("the first not so", 4, x.looked());
        script("ln");
        due("by another wall there are not so many", 1, x.looked());
        begin("25 looked, not so many");
        script("rn;b0,1,0;b10,1,0;b20,3,-1");
        x.book(8, x.where(8));
        due("the last", -5, x.looked());
        x.book(9, 0);
        due("beyond", 1, x.looked());
    }

    private static void judge() {
        begin("26 judge");
        due("no strikes", -5, x.judge(0, 0));
        due("no strikes, below 0", -5, x.judge(0, -1));
        due("tape -1", NONE, x.judge(-1, 0));
        due("tape 6", NONE, x.judge(6, 0));
        x.tape(1, 1, 3);
        due("cast ahead of no strikes", CAST, x.judge(1, 0));
        script("b10,1,3;b20,2,-1");
        due("nothing", 100, x.judge(0, 0));
        due("nothing, below 0", 100, x.judge(0, -1));
        for (int sort = 1; sort <= 4; sort++) {
            x.tape(2, sort, 5);
            due("sort " + sort, CAST, x.judge(2, 0));
            due("sort " + sort + ", below 0", CAST, x.judge(2, -1));
        }
        x.tape(0, 0, 0);
        due("no items", 100, x.judge(0, 0));
        x.tape(0, 0, 4);
        due("the first is otherwise", 0, x.judge(0, 0));
        x.item(0, 1, 1);
        x.item(0, 3, 9);
        due("from 1 on", 103, x.judge(0, 1));
        x.item(0, 3, 8);
        due("the third is otherwise", 2, x.judge(0, 1));
        due("at the end", 100, x.judge(0, 4));
        due("far off", 100, x.judge(0, MOST));
        due("below 0", 100, x.judge(0, -1));
        due("far below", 100, x.judge(0, LEAST));
        x.tape(0, 0, 60);
        for (int k = 0; k < 20; k++) {
            x.item(0, 40 + k, x.where(k));
        }
        due("all twenty, to the end", -5, x.judge(0, 40));
        x.item(0, 59, 0);
        due("the last is otherwise", 19, x.judge(0, 40));
    }

    private static void image() {
        begin("27 image, 28 undo");
        due("undo without", STATE, x.undo());
        due("of nothing", 0, x.image());
        script("b10,1,3;b20,2,-1;g1;e2;l1;rn");
        x.see(1, 2);
        x.event(0, 1);
        x.book(3, 4);
        x.feed(101);
        x.tape(0, 2, 3);
        x.item(0, 1, 77);
        due("undo to nothing", 0, x.undo());
        for (int what = 0; what < 4; what++) {
            due("told(" + what + ")", new int[] {0, 4, 4, 4}[what], x.told(what));
            due("count(" + what + ")", new int[] {0, 0, 0, 1}[what], x.count(what));
        }
        due("tapes stay", 77, x.peek(0, 1));

        script("b10,1,3;b20,2,-1;g1;e2;l1;rn");
        x.see(0, 1);
        x.event(0, 1);
        x.event(2, 1);
        x.book(3, 4);
        x.book(4, 4);
        x.book(5, 4);
        String before = snapshot();
        due("image", 2, x.image());
        script("b80,9,9;v0,5;m1,7;g3;e4;ln;r4");
        x.see(-1, 0);
        x.event(-1, 0);
        x.event(1, 0);
        x.book(-1, 0);
        x.book(0, 0);
        CHECK.due("all is otherwise", !before.equals(snapshot()));
        due("undo", 2, x.undo());
        CHECK.due("all is as it was", before.equals(snapshot()));
        script("b80,9,9;g3");
        due("undo again", 2, x.undo());
        CHECK.due("the image stays", before.equals(snapshot()));
        script("b80,9,9");
        due("a new image", 3, x.image());
        x.renew(0, 0, 9);
        due("undo to the new one", 3, x.undo());
        due("mass", 1, x.of(0, 2, 0));
    }

    private static void count() {
        begin("29 count");
        x.see(0, 0);
        for (int i = 0; i < 2; i++) {
            x.event(1, 0);
        }
        for (int i = 0; i < 3; i++) {
            x.book(0, 0);
        }
        for (int i = 0; i < 4; i++) {
            x.feed(1);
        }
        for (int what = 0; what < 4; what++) {
            due("count(" + what + ")", what + 1, x.count(what));
        }
        for (int what : new int[] {-1, 4, LEAST, MOST}) {
            due("what " + what, BAD, x.count(what));
        }
    }

    private static void tape() {
        begin("30 tape");
        for (int sort = 0; sort <= 4; sort++) {
            due("sort " + sort, 1, x.tape(sort, sort, 60));
            due("its last item", 0, x.peek(sort, 59));
            due("none behind it", NO, x.peek(sort, 60));
        }
        due("no items", 1, x.tape(5, 3, 0));
        due("no items", PLACE, x.item(5, 0, 1));
        due("tape -1", NONE, x.tape(-1, 0, 1));
        due("tape 6", NONE, x.tape(6, 0, 1));
        due("none ahead of bad", NONE, x.tape(6, 5, 61));
        due("sort -2", BAD, x.tape(0, -2, 1));
        due("sort 5", BAD, x.tape(0, 5, 1));
        due("bad ahead of size", BAD, x.tape(0, 5, -1));
        due("n 61", BAD, x.tape(0, 0, 61));
        due("n far off", BAD, x.tape(0, 0, MOST));
        due("n -1", SIZE, x.tape(0, 0, -1));
        due("n far below", SIZE, x.tape(0, 0, LEAST));
        due("still there", 0, x.peek(0, 59));
        x.item(0, 3, 5);
        due("a row again", 1, x.tape(0, 0, 4));
        due("all 0", 0, x.peek(0, 3));
        due("shorter", NO, x.peek(0, 4));
        due("nothing, n does not matter", 1, x.tape(0, -1, -1));
        due("nothing, n does not matter", 1, x.tape(1, -1, 61));
        due("nothing is there", NOTHING, x.item(0, 0, 1));
        due("nothing is there", NO, x.peek(1, 0));
    }

    private static void item() {
        begin("31 item");
        due("nothing", NOTHING, x.item(0, -1, 1));
        due("tape -1", NONE, x.item(-1, 0, 1));
        due("tape 6", NONE, x.item(6, 0, 1));
        long v = 0x8123456789ABCD80L;
        long[] kept = {(byte) 0x80, (short) 0xCD80, 0x89ABCD80, v, 1};
        for (int sort = 0; sort <= 4; sort++) {
            x.tape(sort, sort, 2);
            due("sort " + sort, 1, x.item(sort, 1, v));
            due("of sort " + sort, kept[sort], x.peek(sort, 1));
            due("the other of sort " + sort, 0, x.peek(sort, 0));
            due("0 again", 1, x.item(sort, 1, 0));
            due("0 again", 0, x.peek(sort, 1));
            due("place -1", PLACE, x.item(sort, -1, 1));
            due("place 2", PLACE, x.item(sort, 2, 1));
            due("place far off", PLACE, x.item(sort, MOST, 1));
        }
        x.item(4, 0, 256);
        due("a boolean of 256", 1, x.peek(4, 0));
        x.item(4, 0, -1);
        due("a boolean of -1", 1, x.peek(4, 0));
        x.item(0, 0, 256);
        due("a byte of 256", 0, x.peek(0, 0));
        x.item(3, 0, Long.MAX_VALUE);
        due("a long", Long.MAX_VALUE, x.peek(3, 0));
    }

    private static void peek() {
        begin("32 peek");
        due("nothing", NO, x.peek(0, 0));
        x.tape(0, 3, 2);
        x.item(0, 0, -7);
        due("an item", -7, x.peek(0, 0));
        due("tape -1", NO, x.peek(-1, 0));
        due("tape 6", NO, x.peek(6, 0));
        due("place -1", NO, x.peek(0, -1));
        due("place 2", NO, x.peek(0, 2));
        due("place far off", NO, x.peek(0, MOST));
    }

    private static void dueItems(int tape, int... want) {
        for (int i = 0; i < want.length; i++) {
            due("peek(" + tape + ", " + i + ")", want[i], x.peek(tape, i));
        }
    }

    private static void shift() {
        begin("33 shift");
        x.tape(0, 2, 5);
        x.tape(1, 2, 3);
        x.tape(2, 1, 5);
        for (int i = 0; i < 5; i++) {
            x.item(0, i, i + 1);
        }
        due("to another", 2, x.shift(0, 3, 1, 1, 2));
        dueItems(1, 0, 4, 5);
        due("to the right in itself", 4, x.shift(0, 0, 0, 1, 4));
        dueItems(0, 1, 1, 2, 3, 4);
        due("to the left in itself", 3, x.shift(0, 2, 0, 0, 3));
        dueItems(0, 2, 3, 4, 3, 4);
        due("tape -1", NONE, x.shift(-1, 0, 0, 0, 0));
        due("tape 6", NONE, x.shift(6, 0, 0, 0, 0));
        due("other 6", NONE, x.shift(0, 0, 6, 0, 0));
        due("other -1", NONE, x.shift(0, 0, -1, 0, 0));
        due("from nothing", NOTHING, x.shift(3, 0, 0, 0, 1));
        due("to nothing", NOTHING, x.shift(0, 0, 3, 0, -1));
        due("unlike sorts", CAST, x.shift(0, 0, 2, 0, 1));
        due("cast ahead of place", CAST, x.shift(0, -1, 2, 0, 1));
        due("n -1", PLACE, x.shift(0, 0, 1, 0, -1));
        due("i -1", PLACE, x.shift(0, -1, 1, 0, 1));
        due("j -1", PLACE, x.shift(0, 0, 1, -1, 1));
        due("beyond its end", PLACE, x.shift(0, 4, 1, 0, 2));
        due("beyond the other's end", PLACE, x.shift(0, 0, 1, 2, 2));
        due("far off", PLACE, x.shift(0, MOST, 1, 0, MOST));
        due("far off", PLACE, x.shift(0, 0, 1, MOST, 1));
        due("far below", PLACE, x.shift(0, 0, 1, 0, LEAST));
        due("none, at the ends", 0, x.shift(0, 5, 1, 3, 0));
        due("none, behind its end", PLACE, x.shift(0, 6, 1, 0, 0));
        due("none, behind the other's end", PLACE, x.shift(0, 0, 1, 4, 0));
        dueItems(0, 2, 3, 4, 3, 4);
        dueItems(1, 0, 4, 5);
        dueItems(2, 0, 0, 0, 0, 0);
        due("all", 3, x.shift(1, 0, 0, 2, 3));
        dueItems(0, 2, 3, 0, 4, 5);
    }

    private static void askingChangesNothing() {
        begin("asking changes nothing");
        script("b10,2,5;b30,3,-4;b50,1,0;b70,7,-9;e3");
        x.see(0, 1);
        x.event(1, 0);
        x.event(0, 2);
        x.book(0, 1);
        String before = snapshot();
        for (int n = -2; n < 22; n++) {
            x.where(n);
            x.time(n, 0);
            x.behind(1, n, 1, 1);
            x.then(n, 0);
            x.push(n, 1);
            x.often(n);
            x.at(0, n, 0);
            x.fits(n, 0);
            x.odds(n, 0);
            x.mean(n);
            x.after(n);
            x.judge(n, 0);
        }
        CHECK.due("as before", before.equals(snapshot()));
    }

    public static void main(String[] args) {
        newObject();
        bumper();
        renew();
        spring();
        wall();
        go();
        feed();
        read();
        of();
        told();
        push();
        where();
        time();
        behind();
        then();
        often();
        at();
        see();
        fits();
        odds();
        mean();
        event();
        after();
        book();
        looked();
        judge();
        image();
        count();
        tape();
        item();
        peek();
        shift();
        askingChangesNothing();
        CHECK.end();
    }
}
