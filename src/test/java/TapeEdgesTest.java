/** Promises 26 to 33 (judging, the image, tapes): each sentence that names a boundary case, for itself. */
public final class TapeEdgesTest extends Bench {
    /** Its strikes are at 9, 0, 9, 0 .. (20 of them); at 9 alone. */
    private static final String TWENTY = "b50,1,9";
    private static final String ONE = "r0;b50,1,9";

    private static final String HELD = "b3,1,2;e3;l2;r1;s0,1;n1,0;k0,1;k1,2";
    private static final String OTHERWISE = ";b10,1,3;v0,5;m0,7;e4;ln;rn;s-1,0;s2,2;s2,3;n-1,0;n2,1;n3,9;k-1,0;k4,4";

    private static final String SIX_ROWS = "t0,0,1;t1,0,1;t2,0,1;t3,0,1;t4,0,1;t5,0,1";

    private void judge() {
        sentence("26", "NONE: tape; CAST: it is no row of bytes.");
        bounds(NONE, 0, 5, TWENTY, 0, "judge", 0, 0);
        kept(NONE, "", "judge", 6, -1);
        for (int sort = 1; sort <= 4; sort++) {
            kept(CAST, "t2," + sort + ",3", "judge", 2, 0);
            due(CAST, TWENTY + ";t2," + sort + ",3", "judge", 2, 0);
            due(CAST, TWENTY + ";t2," + sort + ",3", "judge", 2, -1);
            due(CAST, TWENTY + ";t2," + sort + ",0", "judge", 2, 0);
        }
        sentence("26", "(-5: no STRIKES, also if it holds nothing; NONE, CAST go ahead of that)");
        due(ABSENT, "", "judge", 0, 0);
        due(ABSENT, "b50,1,0", "judge", 5, -1);
        due(ABSENT, "b50,1,0;t0,0,3", "judge", 0, 0);
        due(ABSENT, "b50,1,0;t0,0,3", "judge", 0, 3);
        due(ABSENT, "b50,1,0;t0,0,0", "judge", 0, -1);
        sentence("26", "the first that is otherwise (counted from 0 from that place on); -5: none");
        due(0, TWENTY + ";t0,0,60", "judge", 0, 0);
        due(1, ONE + ";v0,9;r4;t0,0,9;x0,0,9;x0,1,9", "judge", 0, 0);
        due(2, TWENTY + ";t0,0,60;x0,57,9", "judge", 0, 57);
        due(ABSENT, ONE + ";t0,0,1;x0,0,9", "judge", 0, 0);
        due(ABSENT, ONE + ";t0,0,60;x0,59,9", "judge", 0, 59);
        due(ABSENT, ONE + ";t0,0,2;x0,0,9;x0,1,5", "judge", 0, 0);
        due(ABSENT, ONE + ";t0,0,1;x0,0,265", "judge", 0, 0);
        due(0, ONE + ";t0,0,1;x0,0,-9", "judge", 0, 0);
        sentence("26", "100 and how many were looked at, if the row ends ahead of that");
        due(100, TWENTY + ";t0,0,0", "judge", 0, 0);
        due(101, TWENTY + ";t0,0,1;x0,0,9", "judge", 0, 0);
        due(102, TWENTY + ";t0,0,2;x0,0,9", "judge", 0, 0);
        due(101, TWENTY + ";t0,0,60;x0,59,9", "judge", 0, 59);
        due(100, TWENTY + ";t0,0,60", "judge", 0, 60);
        due(100, TWENTY + ";t0,0,60", "judge", 0, 61);
        due(100, TWENTY + ";t0,0,60", "judge", 0, MOST);
        sentence("26", "(or the place is below 0, or the TAPE holds nothing)");
        due(100, TWENTY + ";t0,0,60", "judge", 0, -1);
        due(100, TWENTY + ";t0,0,60;x0,0,9", "judge", 0, LEAST);
        due(100, TWENTY, "judge", 0, 0);
        due(100, TWENTY, "judge", 5, -1);
        due(100, TWENTY + ";t0,0,60;t0,-1,0", "judge", 0, 0);
        due(100, TWENTY + ";t0,1,60;t0,-1,0", "judge", 0, 0);
        judgeTwenty();
    }

    private void judgeTwenty() {
        StringBuilder row = new StringBuilder(TWENTY + ";t3,0,20");
        for (int k = 0; k < 20; k += 2) {
            row.append(";x3,").append(k).append(",9");
        }
        due(ABSENT, row.toString(), "judge", 3, 0);
        due(19, row + ";x3,19,9", "judge", 3, 0);
        due(118, row.toString(), "judge", 3, 2);
        due(0, row.toString(), "judge", 3, 1);
        due(119, row.toString().replace("t3,0,20", "t3,0,19"), "judge", 3, 0);
        due(ABSENT, row.toString().replace("t3,0,20", "t3,0,60"), "judge", 3, 0);
        kept(118, row.toString(), "judge", 3, 2);
    }

    private void image() {
        sentence("27", "THE IMAGE is taken: how many BUMPERS there are.");
        due(0, "", "image");
        due(6, "b0,1,0;b1,1,0;b2,1,0;b3,1,0;b4,1,0;b5,1,0", "image");
        row("", "image;undo;bumper 5 1 0;undo;told 0", 0, 0, 0, 0, 0);
        sentence("28", "how many BUMPERS. STATE: there is none.");
        kept(STATE, HELD, "undo");
        due(STATE, "", "undo");
        due(1, HELD + ";i" + OTHERWISE, "undo");
        due(2, HELD + OTHERWISE + ";i;b50,1,1", "undo");
        sentence("28", "All is as THE IMAGE (THE TEXT and the TAPES stay as they are)");
        alike(HELD + ";i" + OTHERWISE + ";u", HELD + ";i");
        alike(HELD + ";i" + OTHERWISE + ";u" + OTHERWISE + ";u", HELD + ";i");
        alike(HELD + ";i" + OTHERWISE + ";i;b20,2,-9;e0;u", HELD + OTHERWISE + ";i");
        alike("i;" + HELD + ";u", "i");
        String six = "b0,1,0;b1,1,0;b2,1,0;b3,1,0;b4,1,0;b5,1,0";
        alike(six + ";s0,1;s1,1;i;" + "s-1,0;g20;u", six + ";s0,1;s1,1;i");
        alike("b10,1,3;b20,2,-1;g1;i;g3;u", "b10,1,3;b20,2,-1;g1;i");
        alike("fl1|e;t0,2,3;x0,1,77;i;fb;p;fr2;t0,3,1;x0,0,5;t1,0,1;u", "fr2;t0,3,1;x0,0,5;t1,0,1;i");
        alike("ln;rn;i;t0,0,1;fe2|l3;u", "ln;rn;i;t0,0,1;fe2|l3");
    }

    private void count() {
        sentence("29", "How many: 0 SEEN, 1 EVENTS, 2 of the BOOK, 3 bytes of THE TEXT. BAD.");
        bounds(BAD, 0, 3, RICH, 0, "count", 0);
        row("", "count 0;count 1;count 2;count 3;count 4;count -1", 0, 0, 0, 0, BAD, BAD);
        row("s0,0;n1,0;n1,0;k0,0;k0,0;k0,0;f1234", "count 0;count 1;count 2;count 3", 1, 2, 3, 4);
        row("s0,0;s0,0;s0,0;s0,0;s0,0;f" + "|".repeat(100), "count 0;count 3", 5, 100);
        row("n1,0".concat(";n1,0".repeat(7)) + ";k1,0".repeat(8), "count 1;count 2", 8, 8);
    }

    private void tape() {
        sentence("30", "NONE: tape; BAD: sort, n above 60; SIZE.");
        bounds(NONE, 0, 5, RICH, 0, "tape", 0, 0, 3);
        bounds(BAD, -1, 4, RICH, 1, "tape", 0, 0, 3);
        for (int sort = 0; sort <= 4; sort++) {
            due(1, "", "tape", 0, sort, 0);
            due(1, "", "tape", 5, sort, 60);
            kept(BAD, RICH, "tape", 0, sort, 61);
            due(BAD, RICH, "tape", 0, sort, MOST);
            kept(SIZE, RICH, "tape", 0, sort, -1);
            due(SIZE, RICH, "tape", 0, sort, LEAST);
        }
        kept(NONE, RICH, "tape", 6, 5, 61);
        kept(NONE, RICH, "tape", -1, 0, -1);
        kept(BAD, RICH, "tape", 0, 5, -1);
        kept(BAD, RICH, "tape", 0, -2, -1);
        sentence("30", "A TAPE becomes a row of n (0 .. 60) of a sort, all 0");
        row("t0,2,60;x0,0,7;x0,59,7;t0,1,60", "peek 0 0;peek 0 59;peek 0 60;item 0 59 65536;peek 0 59", 0, 0, NO, 1, 0);
        row("t0,2,60;x0,0,7;x0,1,8;t0,2,1;t0,2,2", "peek 0 0;peek 0 1;peek 0 2", 0, 0, NO);
        row("t0,2,0", "peek 0 0;item 0 0 1;shift 0 0 0 0 0", NO, PLACE, 0);
        sentence("30", "or holds nothing (sort -1: n does not matter): 1");
        for (int n : new int[] {-1, 0, 60, 61, LEAST, MOST}) {
            row("t1,0,3", "tape 1 -1 " + n + ";item 1 0 1;peek 1 0;shift 1 0 1 0 0", 1, NOTHING, NO, NOTHING);
        }
        alike("t0,2,3;x0,1,77;t0,-1,0", "");
    }

    private void item() {
        sentence("31", "NONE; NOTHING; PLACE.");
        bounds(NONE, 0, 5, SIX_ROWS, 0, "item", 0, 0, 1);
        kept(NONE, RICH, "item", 6, 0, 1);
        kept(NOTHING, RICH, "item", 5, 0, 1);
        kept(NOTHING, RICH, "item", 5, -1, 1);
        bounds(PLACE, 0, 2, RICH, 1, "item", 0, 0, 1);
        bounds(PLACE, 0, 59, "t0,4,60", 1, "item", 0, 0, 1);
        bounds(PLACE, 0, 0, "t0,3,1", 1, "item", 0, 0, 1);
        kept(PLACE, "t0,3,0", "item", 0, 0, 1);
        kept(NONE, RICH, "item", 6, -1, 1);
    }

    /** What a sort keeps of numbers: each number and what is kept of it. */
    private void keeps(int sort, long... pairs) {
        for (int i = 0; i < pairs.length; i += 2) {
            row("t0," + sort + ",3", "item 0 1 " + pairs[i] + ";peek 0 1;peek 0 0;peek 0 2", 1, pairs[i + 1], 0, 0);
        }
    }

    private void wrapAround() {
        sentence("31", "(its lowest bits, as many as an item has; booleans: whether v is not 0)");
        long most = Long.MAX_VALUE;
        long least = Long.MIN_VALUE;
        keeps(0, 127, 127, 128, -128, 255, -1, 256, 0, -128, -128, -129, 127, -256, 0, most, -1, least, 0, 1L << 40, 0);
        keeps(1, 32767, 32767, 32768, -32768, 65535, -1, 65536, 0, -32768, -32768, -32769, 32767, 255, 255, most, -1,
            least, 0, 1L << 40, 0);
        keeps(2, MOST, MOST, MOST + 1L, LEAST, (1L << 32) - 1, -1, 1L << 32, 0, LEAST, LEAST, LEAST - 1L, MOST, 65535, 65535,
            most, -1, least, 0, 1L << 40, 0);
        keeps(3, most, most, least, least, -1, -1, 1L << 40, 1L << 40);
        keeps(4, 0, 0, 1, 1, -1, 1, 2, 1, 256, 1, 1L << 32, 1, most, 1, least, 1);
        row("t0,4,1;x0,0,5", "peek 0 0;item 0 0 0;peek 0 0", 1, 1, 0);
        row("t0,3,1", "item 0 0 " + least + ";peek 0 0;peek 0 1", 1, NO, NO);
    }

    private void peek() {
        sentence("32", "NO: no such TAPE, nothing there, no such place.");
        bounds(NO, 0, 4, RICH, 0, "peek", 0, 0);
        bounds(NO, 0, 2, RICH, 1, "peek", 0, 0);
        bounds(NO, 0, 59, "t5,3,60", 1, "peek", 5, 0);
        kept(NO, RICH, "peek", 5, 0);
        due(NO, "t0,0,0", "peek", 0, 0);
        row("t0,3,2;x0,0,-7", "peek 0 0;peek 0 1;peek 0 2", -7, 0, NO);
    }

    private void shift() {
        String two = "t0,2,5;x0,0,1;x0,1,2;x0,2,3;x0,3,4;x0,4,5;t1,2,3;x1,0,70;x1,1,80;x1,2,90;t2,1,5";
        sentence("33", "NONE: tapes; NOTHING; CAST: of unlike sorts; PLACE:");
        bounds(NONE, 0, 5, SIX_ROWS, 0, "shift", 0, 0, 1, 0, 1);
        bounds(NONE, 0, 5, SIX_ROWS, 2, "shift", 0, 0, 1, 0, 1);
        kept(NONE, two, "shift", 3, 0, 6, 0, 1);
        kept(NONE, two, "shift", 6, -1, 3, 0, 1);
        kept(NOTHING, two, "shift", 3, 0, 2, 0, -1);
        kept(NOTHING, two, "shift", 2, -1, 3, 0, 1);
        kept(NOTHING, two, "shift", 3, 0, 3, 0, 0);
        kept(CAST, two, "shift", 0, 0, 2, 0, 1);
        kept(CAST, two, "shift", 2, -1, 0, 0, 1);
        kept(CAST, two, "shift", 2, 0, 0, 0, 0);
        for (int sort = 1; sort <= 4; sort++) {
            due(CAST, "t0,0,2;t1," + sort + ",2", "shift", 0, 0, 1, 0, 1);
            due(CAST, "t0,0,2;t1," + sort + ",2", "shift", 1, 0, 0, 0, 1);
        }
        sentence("33", "PLACE: n, i or j is below 0, or beyond either's end.");
        bounds(PLACE, 0, 3, two, 1, "shift", 0, 0, 1, 0, 2);
        bounds(PLACE, 0, 1, two, 3, "shift", 0, 0, 1, 0, 2);
        bounds(PLACE, 0, 3, two, 4, "shift", 0, 0, 1, 0, 1);
        bounds(PLACE, 0, 3, two, 4, "shift", 1, 0, 0, 0, 1);
        bounds(PLACE, 0, 5, two, 1, "shift", 0, 0, 1, 3, 0);
        bounds(PLACE, 0, 3, two, 3, "shift", 0, 5, 1, 0, 0);
        kept(PLACE, two, "shift", 0, MOST, 1, 0, MOST);
        kept(PLACE, two, "shift", 0, 0, 1, MOST, MOST);
        kept(PLACE, two, "shift", 0, MOST, 1, MOST, 1);
        kept(0, two, "shift", 0, 5, 1, 3, 0);
        due(60, "t0,0,60;t1,0,60", "shift", 0, 0, 1, 0, 60);
        due(PLACE, "t0,0,60;t1,0,60", "shift", 0, 0, 1, 0, 61);
        shiftItself(two);
    }

    private void shiftItself(String two) {
        String five = ";peek 0 0;peek 0 1;peek 0 2;peek 0 3;peek 0 4";
        sentence("33", "come to another one (or the same) from j on, as they all were before: n");
        row(two, "shift 0 3 1 1 2;peek 1 0;peek 1 1;peek 1 2" + five, 2, 70, 4, 5, 1, 2, 3, 4, 5);
        row(two, "shift 1 0 0 2 3" + five, 3, 1, 2, 70, 80, 90);
        row(two, "shift 0 0 0 1 4" + five, 4, 1, 1, 2, 3, 4);
        row(two, "shift 0 1 0 0 4" + five, 4, 2, 3, 4, 5, 5);
        row(two, "shift 0 0 0 2 3" + five, 3, 1, 2, 1, 2, 3);
        row(two, "shift 0 0 0 0 5" + five, 5, 1, 2, 3, 4, 5);
        for (int sort = 0; sort <= 4; sort++) {
            String rows = "t4," + sort + ",2;x4,1,1;t5," + sort + ",2";
            row(rows, "shift 4 1 5 0 1;peek 5 0;peek 5 1;peek 4 1", 1, 1, 0, 1);
        }
        row("t4,0,2;x4,1,-5;t5,0,2;r0;b50,1,9;x4,0,9", "judge 5 0;shift 4 0 5 0 2;judge 5 0;judge 5 1", 0, 2, ABSENT, 0);
    }

    /** One object answers all questions, there and back, as new objects do one each. */
    private void askedInOneRow(String setup, String[] questions) {
        int n = questions.length;
        long[] answers = new long[2 * n];
        StringBuilder all = new StringBuilder();
        for (int i = 0; i < 2 * n; i++) {
            String question = questions[i < n ? i : 2 * n - 1 - i];
            all.append(i == 0 ? "" : ";").append(question);
            answers[i] = asked(setup, question);
        }
        row(setup, all.toString(), answers);
    }

    private void askingChangesNothing() {
        sentence("all", "What is answered so changes nothing; what is asked changes nothing.");
        String[] questions = {"of 1 0 0", "told 4", "told 5", "push 1 0", "where 2", "time 2 1", "behind 1 2 1 0",
            "behind 1 -1 0 0", "then 1 0", "often 1", "at 1 9 0", "fits 1 0", "fits 1 1", "odds 9 0", "mean 1", "after 0",
            "after 2", "looked", "judge 0 0", "count 1", "peek 0 1"};
        for (String question : questions) {
            kept(RICH, question);
        }
        String[] setups = {RICH, TWENTY, "b10,2,5;b30,3,-4;b50,1,0;b70,7,-9;e3;s0,1;n1,0;k0,1", "rn;b0,1,0;b10,1,0;b20,3,-1"};
        for (String setup : setups) {
            askedInOneRow(setup, questions);
        }
        sentence("all", "THE IMAGE is taken");
        row(RICH, "image;told 0;count 0;count 1;count 2;count 3;undo;told 0;count 0;count 3", 4, 4, 2, 3, 2, 4, 4, 4, 2, 4);
    }

    public static void main(String[] args) {
        TapeEdgesTest test = new TapeEdgesTest();
        test.judge();
        test.image();
        test.count();
        test.tape();
        test.item();
        test.wrapAround();
        test.peek();
        test.shift();
        test.askingChangesNothing();
        test.end();
    }
}
