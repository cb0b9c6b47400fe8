/** Promises 18 to 25 (seen, odds, events, books): each sentence that names a boundary case, for itself. */
public final class HandEdgesTest extends Bench {
    private static final int[] WHERES = {0, 1, 2, 3, 4, 5, 9};
    private static final int[] NO_WHERES = {-1, 6, 7, 8, 10, -5, LEAST, MOST};

    private static final String SIX = "b10,1,0;b20,2,0;b30,3,0;b40,4,0;b50,5,1;b60,6,-1";
    private static final String FOUR_SEEN = "s0,1;s19,9;s1,0;s1,0";
    private static final String FIVE_SEEN = FOUR_SEEN + ";s18,5";
    private static final String SEVEN_EVENTS = "n1,0;n2,0;n2,4;n3,0;n3,4;n3,9;n1,0";
    private static final String EIGHT_EVENTS = SEVEN_EVENTS + ";n1,0";
    private static final String SEVEN_OF_BOOK = "k0,1;k19,9;k1,0;k1,0;k2,2;k3,3;k4,4";
    private static final String EIGHT_OF_BOOK = SEVEN_OF_BOOK + ";k5,5";

    /** By 0 to 4 quarters there are 20, 17, 13, 12, 9 strikes. */
    private static final String BY_SPRING = "rn;b0,1,0;b10,1,0;b20,3,-1;e2";

    private static final String LEFT_BEYOND = "ln;rn;b0,1,-1;b3,1,-4;g1";
    private static final String RIGHT_BEYOND = "ln;rn;b95,1,4;b99,1,1;g1";

    /** The place of the bumper in the middle LESS 100 is over, while it is left of there. */
    private static final String RIGHT_OVER = "b1,9,8;b24,8,-8;b51,5,-8;e0;g6;v2,8;g3;v0,3;g1;v0,1;g1";

    /** The rows that see and book take alike. */
    private void rows(String call, int count, int most, String oneLess, String full) {
        bounds(NONE, -1, 19, RICH, 0, call, 3, 1);
        for (int where : WHERES) {
            due(1, "", call, 0, where);
            due(most, oneLess, call, 19, where);
            kept(FULL, full, call, 0, where);
        }
        for (int where : NO_WHERES) {
            kept(NONE, RICH, call, 0, where);
            due(NONE, full, call, 0, where);
        }
        kept(NONE, full, call, 20, 0);
        kept(NONE, full, call, -2, 0);
        kept(NONE, full, call, 0, 6);
        due(most, oneLess, call, 0, 0);
        kept(FULL, full, call, 0, 0);
        row(full, "count " + count + ";" + call + " 0 0;count " + count, most, FULL, most);
        for (int rest : NO_WHERES) {
            due(0, full, call, -1, rest);
            row(full, call + " -1 " + rest + ";count " + count + ";" + call + " 0 0;" + call + " -1 0", 0, 0, 1, 0);
        }
        row("", call + " -1 0;count " + count, 0, 0);
    }

    private void see() {
        sentence("18", "k (0 .. 19), WHERE (5 rows at most)");
        sentence("18", "(k -1: none then, 0, whatever the rest is). NONE: k (0 .. 19), where; FULL: 5.");
        rows("see", 0, 5, FOUR_SEEN, FIVE_SEEN);
        alike(FIVE_SEEN + ";s-1,77", "");
        alike("b50,1,9;s0,1;s-1,6;s0,9", "b50,1,9;s0,9");
    }

    private void fits() {
        sentence("19", "FITS: what 0 how many, 1 the least (-10: none). NONE: bumper, what.");
        bounds(NONE, 0, 5, SIX, 0, "fits", 0, 0);
        bounds(NONE, 0, 1, "b10,1,0", 1, "fits", 0, 0);
        due(NONE, "", "fits", 0, 0);
        due(NONE, "s0,1", "fits", 0, 1);
        sentence("19", "(all 11 without SEEN); the least (-10: none)");
        row("b10,1,9", "fits 0 0;fits 0 1", 11, -5);
        row("b10,1,9;s0,1;s-1,0", "fits 0 0;fits 0 1", 11, -5);
        row("ln;rn;b10,1,9;s0,0", "fits 0 0;fits 0 1", 0, -10);
        row("b10,1,9;s0,1", "fits 0 0;fits 0 1", 0, -10);
        row("b10,1,9;s0,0;s0,9", "fits 0 0;fits 0 1", 0, -10);
        sentence("19", "how many SPEEDS -5 .. 5 (whole ones) there are by which, were that its own");
        row("b50,1,0;s0,9", "fits 0 0;fits 0 1", 5, 1);
        row("b50,1,-9;s0,0", "fits 0 0;fits 0 1", 5, -5);
        row("ln;rn;b0,1,0;b10,1,4;s0,1", "fits 0 0;fits 0 1", 1, 5);
        row("ln;rn;b0,1,9;b10,1,5;s0,1", "fits 0 0;fits 0 1", 0, -10);
        row("ln;rn;b0,1,-4;b10,1,0;s0,1", "fits 1 0;fits 1 1", 1, -5);
        row("ln;rn;b0,1,-5;b10,1,-9;s0,1", "fits 1 0;fits 1 1", 0, -10);
        row("ln;rn;b0,1,1;b10,1,-1;s0,1", "fits 0 0;fits 0 1;fits 1 0;fits 1 1", 6, 0, 6, -5);
        sentence("19", "ALL would have STRIKES k of SEEN, there");
        row("b50,1,9;s19,0", "fits 0 0;fits 0 1", 5, 1);
        row("b50,1,9;s19,9", "fits 0 0;fits 0 1", 5, -5);
        row("b50,1,9;s19,0;s18,9;s0,9;s1,0;s2,9", "fits 0 0;fits 0 1", 5, 1);
        row("b50,1,9;s19,0;s18,9;s0,9;s1,0;s2,0", "fits 0 0;fits 0 1", 0, -10);
        row("b50,1,9;s0,9;s0,9;s0,9;s0,9;s19,9", "fits 0 0", 0);
        row("r0;b50,1,9;s0,9", "fits 0 0", 5);
        row("r0;b50,1,9;s1,9", "fits 0 0;fits 0 1", 5, -5);
        row("r0;b50,1,9;s1,0", "fits 0 0", 0);
        row("r0;b50,1,9;s0,9;s1,0", "fits 0 0", 0);
        kept(5, "b50,1,7;s0,9", "fits", 0, 0);
    }

    private void dueOdds(int n, long above, long below) {
        dueFraction(above, below, BY_SPRING, "odds", n);
    }

    private void oddsAndMean() {
        sentence("20", "ODDS of n (0 .. 20): were SPRING 0, 1, 2, 3, 4 quarters, each alike likely");
        bounds(NO, 0, 20, BY_SPRING, 0, "odds", 1, 0);
        bounds(NO, 0, 1, BY_SPRING, 1, "odds", 9, 0);
        kept(NO, RICH, "odds", 21, 0);
        kept(NO, RICH, "odds", 0, 2);
        int[] strikes = {20, 17, 13, 12, 9};
        for (int q = 0; q <= 4; q++) {
            due(strikes[q], BY_SPRING + ";e" + q, "told", 4);
        }
        sentence("20", "how likely ALL has n STRIKES or more: a fraction in lowest terms");
        dueOdds(0, 1, 1);
        dueOdds(1, 1, 1);
        dueOdds(9, 1, 1);
        dueOdds(10, 4, 5);
        dueOdds(12, 4, 5);
        dueOdds(13, 3, 5);
        dueOdds(14, 2, 5);
        dueOdds(17, 2, 5);
        dueOdds(18, 1, 5);
        dueOdds(20, 1, 5);
        dueFraction(1, 1, "", "odds", 0);
        dueFraction(0, 1, "", "odds", 1);
        dueFraction(0, 1, "", "odds", 20);
        dueFraction(1, 1, "b50,1,9", "odds", 20);
        dueFraction(1, 1, "r0;b50,1,9", "odds", 1);
        dueFraction(0, 1, "r0;b50,1,9", "odds", 2);
        sentence("21", "MEAN: all MASSES, together, by how many BUMPERS there are: a fraction in lowest terms (NO: none).");
        bounds(NO, 0, 1, "b10,1,0", 0, "mean", 0);
        due(NO, "", "mean", 0);
        due(NO, "", "mean", 1);
        dueFraction(9, 1, "b10,9,0", "mean");
        dueFraction(3, 2, "b10,1,0;b20,2,0", "mean");
        dueFraction(2, 1, "b10,1,0;b20,3,0", "mean");
        dueFraction(7, 2, SIX, "mean");
        dueFraction(9, 1, SIX + ";m0,9;m1,9;m2,9;m3,9;m4,9;m5,9", "mean");
        dueFraction(11, 6, SIX + ";m0,1;m1,1;m2,1;m3,1;m4,1;m5,6", "mean");
    }

    private void event() {
        sentence("22", "NONE: what (0 .. 3), BUMPER n; BAD: n (by 1: 0; by 2: 0 .. 4; by 3: 0 .. 4, 9); FULL: 8.");
        bounds(NONE, -1, 3, RICH, 0, "event", 0, 0);
        bounds(NONE, 0, 3, RICH, 1, "event", 0, 0);
        bounds(NONE, 0, 5, SIX, 1, "event", 0, 0);
        due(NONE, "", "event", 0, 0);
        bounds(BAD, 0, 0, RICH, 1, "event", 1, 0);
        bounds(BAD, 0, 4, RICH, 1, "event", 2, 0);
        for (int n : new int[] {0, 1, 2, 3, 4, 9}) {
            due(4, RICH, "event", 3, n);
        }
        for (int n : new int[] {-1, 5, 6, 7, 8, 10, LEAST, MOST}) {
            kept(BAD, RICH, "event", 3, n);
        }
        kept(BAD, RICH, "event", 2, 9);
        kept(NONE, RICH, "event", 4, -1);
        kept(NONE, RICH, "event", -2, 10);
        sentence("22", "8 rows at most");
        due(8, SEVEN_EVENTS, "event", 1, 0);
        kept(FULL, EIGHT_EVENTS, "event", 1, 0);
        kept(FULL, EIGHT_EVENTS, "event", 3, 9);
        kept(FULL, "b10,1,0;" + EIGHT_EVENTS, "event", 0, 0);
        kept(NONE, "b10,1,0;" + EIGHT_EVENTS, "event", 0, 1);
        kept(NONE, EIGHT_EVENTS, "event", 4, 0);
        kept(BAD, EIGHT_EVENTS, "event", 1, 1);
        kept(BAD, EIGHT_EVENTS, "event", 2, 5);
        kept(BAD, EIGHT_EVENTS, "event", 3, 5);
        sentence("22", "(what -1: none then, 0, whatever the rest is)");
        for (int rest : new int[] {-1, 0, 77, LEAST, MOST}) {
            row(EIGHT_EVENTS, "event -1 " + rest + ";count 1;event 1 0", 0, 0, 1);
        }
        alike(EIGHT_EVENTS + ";n-1,5", "");
    }

    private void dueAfter(int strikes, int end, int where, String setup) {
        row(setup, "after 0;after 1;after 2", strikes, end, where);
    }

    private void after() {
        sentence("23", "AFTER: what 0 how many, 1 END, 2 WHERE (-5). NONE.");
        bounds(NONE, 0, 2, "b50,1,9", 0, "after", 0);
        dueAfter(0, 0, ABSENT, "");
        dueAfter(0, 0, ABSENT, "b50,1,0");
        dueAfter(20, 1, 9, "b50,1,9");
        dueAfter(20, 1, 0, "b50,1,9;n1,0");
        dueAfter(6, 2, 1, "b10,2,5;b30,3,-4;b50,1,0;b70,7,-9;n2,3");
        sentence("23", "0 SPEED of BUMPER n is 0; 1 all SPEEDS are 0 LESS they were (n 0); 2 SPRING is n");
        dueAfter(0, 0, ABSENT, "b50,1,9;n0,0");
        dueAfter(5, 0, 5, "ln;rn;" + SIX);
        dueAfter(5, 0, 5, "ln;rn;" + SIX + ";n0,5");
        dueAfter(0, 0, ABSENT, "ln;rn;" + SIX + ";n0,5;n0,4");
        dueAfter(4, 0, 4, "ln;rn;" + SIX + ";n1,0");
        int[] strikes = {20, 17, 13, 12, 9};
        int[] ends = {1, 2, 0, 0, 0};
        for (int q = 0; q <= 4; q++) {
            dueAfter(strikes[q], ends[q], 2, BY_SPRING + ";n2," + q);
        }
        sentence("23", "AFTER, behind all of it");
        dueAfter(20, 1, 0, "b50,1,9" + ";n1,0".repeat(7));
        dueAfter(20, 1, 9, "b50,1,9" + ";n1,0".repeat(8));
        dueAfter(0, 0, ABSENT, "b50,1,9" + ";n1,0".repeat(7) + ";n0,0");
        dueAfter(9, 0, 2, BY_SPRING + ";n2,0;n2,4");
        dueAfter(20, 1, 2, BY_SPRING + ";n2,4;n2,0");
        kept(20, BY_SPRING + ";n2,4;n2,0;n3,9;n1,0;n3,4;n1,0", "after", 0);
    }

    private void afterWalls() {
        sentence("23", "3 both WALLS are n quarters springy (9: none)");
        dueAfter(1, 0, 0, "ln;rn;b10,1,-1;n3,0");
        dueAfter(1, 0, 9, "ln;rn;b10,1,1;n3,0");
        dueAfter(0, 0, ABSENT, "b10,1,-1;n3,9");
        dueAfter(0, 0, ABSENT, "b10,1,1;n3,9");
        dueAfter(0, 0, ABSENT, "b10,1,1;n3,4;n3,9");
        dueAfter(20, 1, 9, "b10,1,1;n3,9;n3,4");
        for (int q = 0; q <= 4; q++) {
            String walls = "l" + q + ";r" + q + ";b3,1,4";
            dueAfter((int) asked(walls, "told", 4), (int) asked(walls, "told", 5), 9, "b3,1,4;n3," + q);
        }
        sentence("23", "each, unless a BUMPER is beyond; 8 rows at most");
        dueAfter(0, 0, ABSENT, LEFT_BEYOND + ";n3,0");
        dueAfter(4, 0, 1, LEFT_BEYOND + ";n3,0;n1,0");
        dueAfter(0, 0, ABSENT, RIGHT_BEYOND + ";n3,0");
        dueAfter(4, 0, 1, RIGHT_BEYOND + ";n3,0;n1,0");
        dueAfter(1, 0, 0, "ln;rn;b1,1,-9;b40,1,9;b42,1,-9;g1;v1,0;v2,0;n3,0");
        dueAfter(0, 0, ABSENT, "ln;rn;b0,1,-1;b50,1,9;b51,1,-9;g1;v1,0;v2,0;n3,0");
        dueAfter(1, 0, 9, "ln;rn;b40,1,9;b42,1,-9;b99,1,9;g1;v0,0;v1,0;n3,0");
        dueAfter(0, 0, ABSENT, "ln;rn;b40,1,9;b42,1,-8;b99,1,9;g1;v0,0;v1,0;n3,0");
        dueAfter(1, 0, 9, "b10,1,0;b20,1,0;b30,1,0;b40,1,0;b50,1,0;b60,1,1;n3,0");
        dueAfter(1, 2, 9, RIGHT_OVER + ";v0,0;v1,0;v2,9");
        dueAfter(1, 2, 9, RIGHT_OVER + ";v0,0;v1,0;v2,9;n3,0");
        dueAfter(1, 2, 9, RIGHT_OVER + ";v0,0;v1,0;v2,9;n3,9");
        dueAfter(0, 0, ABSENT, RIGHT_OVER + ";v0,0;v1,0;v2,9;rn;n3,0");
    }

    private void book() {
        sentence("24", "k (0 .. 19), WHERE (8 rows at most)");
        sentence("24", "(k -1: it is empty then, 0, whatever the rest is). NONE: k, where; FULL: 8.");
        rows("book", 2, 8, SEVEN_OF_BOOK, EIGHT_OF_BOOK);
        alike(EIGHT_OF_BOOK + ";k-1,77", "");
        due(ABSENT, "b50,1,9;k0,0;k-1,6;k0,9", "looked");
    }

    private void looked() {
        sentence("25", "the number (from 0) of the first of these rows that ALL has not so (-5: none)");
        due(ABSENT, "", "looked");
        due(ABSENT, "b50,1,9", "looked");
        due(0, "k0,9", "looked");
        due(ABSENT, "b50,1,9;k0,9", "looked");
        due(0, "b50,1,9;k0,0", "looked");
        String seven = "b50,1,9;k0,9;k1,0;k2,9;k3,0;k19,0;k18,9;k17,0";
        due(ABSENT, seven, "looked");
        due(ABSENT, seven + ";k0,9", "looked");
        due(7, seven + ";k16,0", "looked");
        due(0, seven.replace("k0,9", "k0,0"), "looked");
        due(6, seven.replace("k17,0", "k17,9") + ";k16,0", "looked");
        due(4, seven.replace("k19,0", "k19,9") + ";k16,0", "looked");
        due(ABSENT, "r0;b50,1,9;k0,9", "looked");
        due(1, "r0;b50,1,9;k0,9;k1,9", "looked");
        due(1, "b10,1,0;b20,1,0;l0;r0;v1,1;k0,9;k19,1", "looked");
        kept(4, seven.replace("k19,0", "k19,9"), "looked");
    }

    public static void main(String[] args) {
        HandEdgesTest test = new HandEdgesTest();
        test.see();
        test.fits();
        test.oddsAndMean();
        test.event();
        test.after();
        test.afterWalls();
        test.book();
        test.looked();
        test.end();
    }
}
