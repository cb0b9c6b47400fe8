/** Promises 1 to 8 (a new object, bumpers, springs): each sentence that names a boundary case, for itself. */
public final class SetUpEdgesTest extends Bench {
    private static final String SIX = "b0,1,0;b1,2,0;b2,3,0;b3,4,0;b4,5,0;b5,6,1";
    private static final String FIVE = "b0,1,0;b1,2,0;b2,3,0;b3,4,0;b4,5,0";

    /** Bumper 0 stands at -1 by 18, at -1, just at 0. */
    private static final String JUST_LEFT = "ln;b0,1,-1;b50,1,9;b51,1,-9;g1";
    private static final String LEFT = "ln;rn;b0,1,-1;b3,1,-4;g1";
    private static final String AT_LEFT = "ln;b1,1,-9;b40,1,9;b42,1,-9;g1";

    /** The last bumper stands at 1701 by 17, just at 100. */
    private static final String JUST_RIGHT = "rn;b40,1,9;b42,1,-8;b99,1,9;g1";
    private static final String AT_RIGHT = "rn;b40,1,9;b42,1,-9;b99,1,9;g1";

    /** The last one's place LESS 80 and more is over; that of one in the middle LESS 100, while the last is at 100. */
    private static final String OVER_LAST = "b30,2,8;b38,4,5;b63,7,-8;e1;r0;g5;v0,0;g1;v0,-4;g1";
    private static final String OVER_MIDDLE = "b1,9,8;b24,8,-8;b51,5,-8;e0;g6;v2,8;g3;v0,3;g1;v0,1;g1";

    private static final String NINE_STRIKES = "rn;b0,1,0;b10,1,0;b20,3,-1";
    private static final String TWENTY_STRIKES = "b24,9,6;b34,1,8;b40,1,1;ln";
    private static final String SIX_STRIKES_AND_OVER = "b10,2,5;b30,3,-4;b50,1,0;b70,7,-9;e3";

    private static final String NINETY_NINE_SIGNS = "f" + "x".repeat(99);
    private static final String HUNDRED_SIGNS = NINETY_NINE_SIGNS + "x";

    private void newObject() {
        sentence("1", "`RailBumpers()`: No BUMPERS.");
        due(0, "", "told", 0);
        due(NONE, "", "renew", 0, 0, 1);
        due(NO, "", "of", 0, 0, 0);
        due(NONE, "", "often", 0);
        due(NO, "", "behind", 0, -1, 0, 0);
        due(NO, "", "at", 0, 0, 0);
        due(NONE, "", "fits", 0, 0);
        due(NONE, "", "event", 0, 0);
        due(NO, "", "mean", 0);
        due(0, "", "image");
        row("", "told 4;told 5;where 0;go 20;told 4", 0, 0, ABSENT, 0, 0);
        sentence("1", "SPRING: 0 .. 4 quarters (4 at first).");
        row("", "told 1;spring 4", 4, 4);
        sentence("1", "none, or 0 .. 4 quarters springy (4 at first)");
        row("", "told 2;told 3;wall 0 4;wall 1 4", 4, 4, 4, 4);
        sentence("1", "TAPES 0 .. 5 hold nothing (at first)");
        for (int tape = 0; tape < 6; tape++) {
            due(NOTHING, "", "item", tape, 0, 1);
            due(NO, "", "peek", tape, 0);
            due(NOTHING, "t" + (tape + 1) % 6 + ",0,1", "shift", tape, 0, (tape + 1) % 6, 0, 0);
        }
        sentence("1", "THE IMAGE: BUMPERS, SPRING, WALLS, SEEN, EVENTS, the BOOK.");
        due(STATE, "", "undo");
        row("", "count 0;count 1;count 2;count 3", 0, 0, 0, 0);
    }

    private void bumperBad() {
        sentence("2", "BAD: place (0 .. 99), mass, speed (-9 .. 9)");
        bounds(BAD, 0, 99, "", 0, "bumper", 5, 1, 0);
        bounds(BAD, 1, 9, "", 1, "bumper", 5, 1, 0);
        bounds(BAD, -9, 9, "", 2, "bumper", 5, 1, 0);
        kept(BAD, RICH, "bumper", -1, 1, 0);
        kept(BAD, RICH, "bumper", 100, 1, 0);
        kept(BAD, FIVE, "bumper", 50, 0, 0);
        kept(BAD, FIVE, "bumper", 50, 10, 0);
        kept(BAD, FIVE, "bumper", 50, 1, -10);
        kept(BAD, FIVE, "bumper", 50, 1, 10);
        row("b99,9,-9", "of 0 0 0;of 0 2 0;of 0 1 0", 99, 9, -9);
        row("b0,1,9", "of 0 0 0;of 0 2 0;of 0 1 0", 0, 1, 9);
    }

    private void bumperState() {
        sentence("2", "STATE: place isn't above that of the last one");
        due(1, "b40,1,0", "bumper", 41, 1, 0);
        kept(STATE, "b40,1,0", "bumper", 40, 1, 0);
        kept(STATE, "b40,1,0", "bumper", 39, 1, 0);
        kept(STATE, "b0,1,0", "bumper", 0, 1, 0);
        due(1, "b98,1,0", "bumper", 99, 1, 0);
        kept(STATE, "b99,1,0", "bumper", 99, 1, 0);
        due(2, "b10,1,3;b20,2,-1;g1", "bumper", 18, 1, 0);
        kept(STATE, "b10,1,3;b20,2,-1;g1", "bumper", 17, 1, 0);
        due(2, LEFT, "bumper", 0, 1, 0);
        kept(STATE, JUST_RIGHT, "bumper", 99, 1, 0);
        kept(STATE, AT_RIGHT, "bumper", 99, 1, 0);
        sentence("2", "(the last one's LESS it isn't below 0, or that is OVER)");
        kept(STATE, OVER_LAST, "bumper", 99, 1, 0);
        kept(STATE, OVER_LAST, "bumper", 80, 1, 0);
        kept(STATE, OVER_LAST, "bumper", 1, 1, 0);
        due(3, "b21,1,-7;b24,1,3;b42,5,2;e3;l1;r2;g2;v2,5;g6;v1,0;e2;g1;v1,-2;g1", "bumper", 99, 1, 0);
    }

    private void bumperFull() {
        sentence("2", "A BUMPER comes, rightmost: its number.");
        row("", "bumper 5 1 0;bumper 6 1 0;bumper 7 1 0;bumper 8 1 0;bumper 98 1 0;bumper 99 1 0;bumper 99 1 0;told 0",
            0, 1, 2, 3, 4, 5, STATE, 6);
        sentence("2", "FULL: 6.");
        due(5, FIVE, "bumper", 5, 6, 1);
        kept(FULL, SIX, "bumper", 99, 1, 0);
        kept(FULL, SIX, "bumper", 6, 9, -9);
        sentence("2", "the first that a call's words name");
        kept(BAD, "b40,1,0", "bumper", 40, 0, 0);
        kept(BAD, "b40,1,0", "bumper", 39, 1, 10);
        kept(BAD, "b40,1,0", "bumper", -1, 1, 0);
        kept(BAD, SIX, "bumper", 100, 1, 0);
        kept(BAD, SIX, "bumper", 99, 10, 0);
        kept(BAD, SIX, "bumper", 99, 1, -10);
        kept(STATE, SIX, "bumper", 5, 1, 0);
    }

    private void renew() {
        sentence("3", "MASS (what 0), SPEED (1; -9 .. 9) of a BUMPER becomes v");
        bounds(BAD, 1, 9, RICH, 2, "renew", 1, 0, 5);
        bounds(BAD, -9, 9, RICH, 2, "renew", 1, 1, 5);
        row(RICH, "renew 1 0 9;of 1 2 0;renew 1 0 1;of 1 2 0", 4, 9, 4, 1);
        row(RICH, "renew 1 1 9;of 1 1 0;of 1 1 1;renew 1 1 -9;of 1 1 0;of 1 1 1", 4, 9, 1, 4, -9, 1);
        dueFraction(-7, 3, "b10,1,3;b20,2,-1;g1", "of", 0, 1);
        dueFraction(0, 1, "b10,1,3;b20,2,-1;g1;v0,0", "of", 0, 1);
        alike("b10,1,3;b20,2,-1;m1,9;v0,-9", "b10,1,-9;b20,9,-1");
        sentence("3", "how many BUMPERS there are. NONE: bumper, what; BAD.");
        due(1, "b40,1,0", "renew", 0, 0, 9);
        due(6, SIX, "renew", 5, 1, 9);
        bounds(NONE, 0, 3, RICH, 0, "renew", 0, 0, 1);
        bounds(NONE, 0, 5, SIX, 0, "renew", 0, 1, 1);
        bounds(NONE, 0, 1, RICH, 1, "renew", 0, 0, 1);
        kept(NONE, "", "renew", 0, 0, 1);
        kept(NONE, RICH, "renew", 4, 0, 10);
        kept(NONE, RICH, "renew", 0, 2, -10);
    }

    private void spring() {
        sentence("4", "SPRING becomes q: what it was. BAD.");
        bounds(BAD, 0, 4, RICH, 0, "spring", 0);
        row("", "spring 0;spring 3;spring 5;spring -1;spring 4;told 1", 4, 0, BAD, BAD, 3, 4);
    }

    private void wall() {
        sentence("5", "becomes so springy (-1: there is none): what it was (-5: none)");
        bounds(BAD, -1, 4, RICH, 1, "wall", 0, 2);
        bounds(BAD, -1, 4, RICH, 1, "wall", 1, 2);
        row("", "wall 0 -1;wall 0 -1;wall 0 0;wall 0 4;told 2;told 3", 4, ABSENT, ABSENT, 0, 4, 4);
        row("", "wall 1 -1;wall 1 -1;wall 1 0;wall 1 4;told 3;told 2", 4, ABSENT, ABSENT, 0, 4, 4);
        sentence("5", "NONE: side; BAD: q; STATE:");
        bounds(NONE, 0, 1, RICH, 0, "wall", 0, 2);
        kept(NONE, RICH, "wall", -1, 5);
        kept(NONE, RICH, "wall", 2, -2);
        kept(NONE, LEFT, "wall", 2, 4);
        kept(BAD, LEFT, "wall", 0, 5);
        kept(BAD, LEFT, "wall", 0, -2);
        kept(BAD, JUST_RIGHT, "wall", 1, 5);
        kept(BAD, JUST_RIGHT, "wall", 1, -2);
    }

    private void wallState() {
        sentence("5", "STATE: a BUMPER is beyond (and it would be one)");
        for (int q = 0; q <= 4; q++) {
            due(STATE, LEFT, "wall", 0, q);
            due(STATE, JUST_RIGHT, "wall", 1, q);
        }
        due(ABSENT, LEFT, "wall", 0, -1);
        due(ABSENT, JUST_RIGHT, "wall", 1, -1);
        due(ABSENT, LEFT, "wall", 1, 4);
        due(4, JUST_RIGHT, "wall", 0, 0);
        sentence("5", "if its PLACE is below 0 (left)");
        kept(STATE, LEFT, "wall", 0, 4);
        kept(STATE, JUST_LEFT, "wall", 0, 0);
        due(ABSENT, AT_LEFT, "wall", 0, 0);
        due(ABSENT, "ln;b0,1,-1", "wall", 0, 4);
        sentence("5", "if its PLACE LESS 100 is above 0");
        kept(STATE, JUST_RIGHT, "wall", 1, 0);
        due(ABSENT, AT_RIGHT, "wall", 1, 4);
        due(ABSENT, "rn;b99,1,9", "wall", 1, 4);
        due(4, SIX, "wall", 0, 2);
        due(4, SIX, "wall", 1, 2);
        due(STATE, "rn;b0,1,0;b1,1,0;b2,1,0;b40,1,9;b42,1,-8;b99,1,9;g1", "wall", 1, 2);
        due(ABSENT, "ln;rn;i;b0,1,-1;b3,1,-4;g1;u", "wall", 0, 2);
        due(ABSENT, "rn;b10,1,0;i;b95,1,4;b99,1,1;g1;u", "wall", 1, 2);
        sentence("5", "or that is OVER (right)");
        kept(STATE, OVER_LAST, "wall", 1, 3);
        kept(STATE, OVER_MIDDLE, "wall", 1, 3);
        row(OVER_MIDDLE, "wall 1 -1;wall 1 0;wall 0 2;told 2;told 3", 4, STATE, 4, 2, ABSENT);
    }

    private void go() {
        sentence("6", "BAD: 0 .. 20.");
        bounds(BAD, 0, 20, RICH, 0, "go", 1);
        kept(0, RICH, "go", 0);
        sentence("6", "how many there were (fewer, if ALL ends)");
        kept(0, "b10,1,0", "go", 20);
        kept(0, "", "go", 20);
        row(NINE_STRIKES, "go 8;go 2;go 1;told 4;told 5", 8, 1, 0, 0, 0);
        row(NINE_STRIKES, "go 9;told 4", 9, 0);
        row(NINE_STRIKES, "go 20;told 4", 9, 0);
        row(TWENTY_STRIKES, "told 4;told 5;go 19;go 20;go 20", 20, 1, 19, 1, 0);
        row(TWENTY_STRIKES, "go 20;told 4;told 5", 20, 0, 0);
        row("b50,1,9", "go 20;go 20;told 4", 20, 20, 20);
        row(SIX_STRIKES_AND_OVER, "go 20;go 20;told 5", 6, 0, 2);
        sentence("6", "PLACES, SPEEDS are as behind them");
        dueFraction(35, 2, "b10,1,3;b20,2,-1;g1", "of", 0, 0);
        dueFraction(-7, 3, "b10,1,3;b20,2,-1;g1", "of", 0, 1);
        alike("b10,1,3;b20,2,-1;g1;g1", "b10,1,3;b20,2,-1;g2");
        alike(TWENTY_STRIKES + ";g20", TWENTY_STRIKES + ";g7;g13");
        sentence("6", "TIME 0");
        dueFraction(15, 2, "b10,1,3;b20,2,-1;g1", "time", 0);
    }

    private void feed() {
        sentence("7", "A sign (0 .. 127) comes behind THE TEXT's: how many it has. BAD; FULL.");
        bounds(BAD, 0, 127, RICH, 0, "feed", 50);
        row("", "feed 0;feed 127;feed 128;feed -1;feed 59;count 3", 1, 2, BAD, BAD, 3, 3);
        sentence("7", "THE TEXT (bytes, 100 at most)");
        due(100, NINETY_NINE_SIGNS, "feed", 0);
        kept(FULL, HUNDRED_SIGNS, "feed", 98);
        kept(BAD, HUNDRED_SIGNS, "feed", 128);
        kept(BAD, HUNDRED_SIGNS, "feed", -1);
        row(HUNDRED_SIGNS, "feed 120;count 3;read;count 3;feed 120", FULL, 100, -10, 0, 1);
    }

    private void fault(int place, String text) {
        due(-10 - place, "f" + text, "read");
        alike(RICH + ";p;f" + text + ";p", RICH + ";p");
    }

    private void done(int clauses, String text, String like) {
        due(clauses, "f" + text, "read");
        alike("f" + text + ";p", like);
    }

    private void readClauses() {
        sentence("8", "CLAUSES, 1 to 12, with ; between (none behind the twelfth)");
        String eleven = "e1|e2|e3|e0|l1|l2|l3|r1|r2|r3|e2";
        done(1, "e1", "e1");
        done(11, eleven, "l3;r3;e2");
        done(12, eleven + "|l0", "l0;r3;e2");
        fault(0, "");
        fault(35, eleven + "|l0|");
        fault(35, eleven + "|l0|l1");
        fault(35, eleven + "|l01");
        fault(33, eleven + "|");
        fault(34, eleven + "|l");
        fault(0, "|e1");
        fault(3, "e1||e2");
        fault(2, "e1e2");
        fault(2, "e1,e2");
        sentence("8", "b PLACE , MASS , SPEED (a BUMPER comes)");
        done(1, "b10,2,3", "b10,2,3");
        sentence("8", "e q (SPRING); l q, r q (WALL; q, or n: none)");
        done(3, "e0|l4|r0", "e0;l4;r0");
        done(2, "ln|rn", "ln;rn");
        fault(1, "en");
        fault(1, "bn");
        fault(1, "gn");
        fault(0, "n");
        fault(2, "lnn");
        fault(2, "ln1");
        sentence("8", "g k (k STRIKES are gone on, fewer, if ALL ends; TIME begins anew)");
        done(4, "rn|b10,1,3|b20,2,-1|g0", "rn;b10,1,3;b20,2,-1");
        done(3, "b10,1,3|b20,2,-1|g1", "b10,1,3;b20,2,-1;g1");
        done(3, "b10,1,3|b20,2,-1|g20", "b10,1,3;b20,2,-1;g20");
        done(5, "rn|b0,1,0|b10,1,0|b20,3,-1|g20", NINE_STRIKES + ";g9");
    }

    private void readSigns() {
        sentence("8", "PLACE, k: 1 or 2 digits");
        done(2, "b0,1,1|b99,1,1", "b0,1,1;b99,1,1");
        done(1, "b07,1,1", "b7,1,1");
        done(1, "g00", "");
        fault(1, "b,1,1");
        fault(3, "b100,1,1");
        fault(3, "b007,1,1");
        fault(1, "b-1,1,1");
        fault(1, "g");
        fault(1, "g-1");
        fault(3, "g020");
        sentence("8", "MASS, q: a digit");
        done(2, "b1,1,1|b2,9,1", "b1,1,1;b2,9,1");
        fault(3, "b1,,1");
        fault(4, "b1,10,1");
        fault(3, "b1,-1,1");
        fault(2, "e01");
        fault(1, "e-1");
        fault(2, "l44");
        fault(1, "r-");
        sentence("8", "SPEED: perhaps -, a digit");
        done(2, "b1,1,9|b2,1,-9", "b1,1,9;b2,1,-9");
        done(1, "b1,1,-0", "b1,1,0");
        fault(5, "b1,1,");
        fault(6, "b1,1,-");
        fault(6, "b1,1,--1");
        fault(6, "b1,1,10");
        fault(7, "b1,1,-10");
        fault(5, "b1,1,+1");
        sentence("8", "Nothing else stands between (no blanks).");
        fault(0, " e1");
        fault(1, "e 1");
        fault(2, "e1 ");
        fault(2, "e1 |e2");
        fault(3, "e1| e2");
        fault(2, "b1 ,1,1");
        fault(3, "b1, 1,1");
        for (char sign : new char[] {0, '/', ':', 'E', 'a', 'd', 'f', 'k', 'm', 's', 127}) {
            fault(0, sign + "1");
            fault(1, "e" + sign);
            fault(2, "g1" + sign);
        }
    }

    private void readFault() {
        sentence("8", "the place of the first byte with which none begins so (the end of THE TEXT, if it ends too early)");
        String[] tooEarly = {"", "b", "b1", "b12", "b1,", "b1,2", "b1,2,", "b1,2,-", "e", "l", "r", "g", "e1|", "e1|g"};
        for (String text : tooEarly) {
            fault(text.length(), text);
        }
        String ninetySeven = "b12,3,-4|".repeat(10) + "b1,2,3|";
        due(2, "f" + ninetySeven + "g12", "read");
        due(-10 - 99, "f" + ninetySeven + "g1x", "read");
        due(-10 - 98, "f" + ninetySeven + "en|", "read");
        due(-10 - 100, "f" + ninetySeven + "b12", "read");
        sentence("8", "THE TEXT, which is empty then (by a FAULT, too)");
        row("fe1", "count 3;read;count 3;read", 2, 1, 0, -10);
        row("fex", "count 3;read;count 3;read", 2, -11, 0, -10);
        sentence("8", "Without it they are done, one behind the other; those that would be refused aren't.");
        alike("fb10,1,3|e1|ln|e;p", "");
        alike("fb10,1,3|g1|;p", "");
        done(0, "e5|e9|l5|r9|b1,0,1", "");
        done(1, "g21|g99|g20", "");
        done(2, "b10,1,3|b10,2,-1|b9,1,1|b11,1,1", "b10,1,3;b11,1,1");
        done(6, "b0,1,0|b1,2,0|b2,3,0|b3,4,0|b4,5,0|b5,6,1|b6,1,1", SIX);
        done(6, "ln|rn|b0,1,-1|b3,1,-4|g1|l4|r4", LEFT + ";r4");
        done(7, "ln|rn|b0,1,-1|b3,1,-4|g1|ln|r0", LEFT + ";r0");
        done(5, "b10,1,3|b20,2,-1|g1|b17,1,1|b18,1,1|e2", "b10,1,3;b20,2,-1;g1;b18,1,1;e2");
    }

    public static void main(String[] args) {
        SetUpEdgesTest test = new SetUpEdgesTest();
        test.newObject();
        test.bumperBad();
        test.bumperState();
        test.bumperFull();
        test.renew();
        test.spring();
        test.wall();
        test.wallState();
        test.go();
        test.feed();
        test.readClauses();
        test.readSigns();
        test.readFault();
        test.end();
    }
}
