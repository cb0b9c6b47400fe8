/** Promises 9 to 17 (what is told, strikes): each sentence that names a boundary case, for itself. */
public final class StrikeEdgesTest extends Bench {
    private static final String TWO = "b10,1,3;b20,2,-1";
    private static final String NINE_STRIKES = "rn;b0,1,0;b10,1,0;b20,3,-1";
    private static final String SIX = "b10,1,0;b20,1,0;b30,1,0;b40,1,0;b50,1,1;b60,1,-1";

    /** Twenty strikes, behind which there is none, and an over. */
    private static final String TWENTY_THEN_NONE = "b24,9,6;b34,1,8;b40,1,1;ln";
    private static final String TWENTY_THEN_OVER = "b0,5,6;l3;r1";

    private static final String OVER_OF_PUSH = "b33,8,6;b68,7,2;b99,8,0;e0;g8;v2,2";
    private static final String OVER_OF_ENERGY = "b50,9,7;b99,2,1;l0;r3;g6";
    private static final String OVER_OF_PUSH_THEN = "b0,4,8;b3,9,4;e0";

    /** Bumper 2 rests and is in no strike; 70 LESS the one strike's time can be told, 71 LESS it is over. */
    private static final String OVER_IN_ASKING = "b17,8,8;b24,9,8;b52,6,-3;e3;r3;g5;e0;v0,0;v1,7;g1;v0,-2;e4;g3;v0,0;m0,1;"
        + "v1,-2;m1,1;v2,0;m2,1;ln;rn";

    private static final String OVER_AT_FIRST = "b31,4,5;b66,9,7;b94,8,-5;e0;g8;v2,-9";

    /** All strikes behind the first one are at the time 30. */
    private static final String SIX_AT_ONCE = "l0;r0;" + SIX + ";v4,0;v5,0;v0,1;e0";

    private void of() {
        sentence("9", "NO: bumper, what, part.");
        bounds(NO, 0, 3, RICH, 0, "of", 3, 0, 0);
        bounds(NO, 0, 5, SIX, 0, "of", 3, 2, 0);
        bounds(NO, 0, 2, TWO, 1, "of", 0, 0, 0);
        bounds(NO, 0, 1, TWO, 2, "of", 0, 1, 0);
        bounds(NO, 0, 1, TWO, 2, "of", 0, 2, 0);
        due(NO, "", "of", 0, 0, 0);
        sentence("9", "MASS (2; by 1)");
        dueFraction(2, 1, TWO, "of", 1, 2);
        dueFraction(9, 1, TWO + ";m1,9", "of", 1, 2);
        sentence("9", "in lowest terms, above 0 below the line");
        dueFraction(-7, 3, TWO + ";g1", "of", 0, 1);
        dueFraction(35, 2, TWO + ";g1", "of", 1, 0);
        dueFraction(0, 1, "l0;b10,1,-3;g1", "of", 0, 1);
        dueFraction(0, 1, "b10,1,-3;g1", "of", 0, 0);
        dueFraction(-1, 18, "ln;b0,1,-1;b50,1,9;b51,1,-9;g1", "of", 0, 0);
    }

    private void told() {
        sentence("10", "What 0 BUMPERS, 1 SPRING, 2 the left WALL (-5: none), 3 the right one (-5)");
        bounds(NONE, 0, 5, RICH, 0, "told", 0);
        row("", "told 0;told 2;told 3", 0, 4, 4);
        row(SIX, "told 0;told 6;told -1", 6, NONE, NONE);
        row("ln;r0;e0", "told 1;told 2;told 3", 0, ABSENT, 0);
        row("l0;rn;e4", "told 1;told 2;told 3", 4, 0, ABSENT);
        sentence("10", "4 how many STRIKES ALL has, 5 END. NONE.");
        row("b10,1,0", "told 4;told 5", 0, 0);
        row("b10,1,1;r0", "told 4;told 5", 1, 0);
        row(TWENTY_THEN_NONE + ";g1", "told 4;told 5", 19, 0);
        row(TWENTY_THEN_OVER + ";g1", "told 4;told 5", 19, 2);
        row("b50,1,9", "told 4;told 5", 20, 1);
        row("b31,4,5;b66,9,7;b94,8,-5;e0;g8;v2,-9", "told 4;told 5", 0, 2);
    }

    private void push() {
        sentence("11", "NO: what, part; there is none.");
        bounds(NO, 0, 1, TWO, 0, "push", 1, 0);
        bounds(NO, 0, 1, TWO, 1, "push", 0, 0);
        kept(NO, RICH, "push", 2, 0);
        kept(NO, RICH, "push", 0, 2);
        sentence("11", "from 0 on, BUMPER by BUMPER");
        dueFraction(0, 1, "", "push", 0);
        dueFraction(0, 1, "", "push", 1);
        dueFraction(0, 1, "b10,9,0", "push", 0);
        dueFraction(-81, 1, "b10,9,-9", "push", 0);
        dueFraction(729, 1, "b10,9,-9", "push", 1);
        dueFraction(486, 1, "b0,9,9;b1,9,9;b2,9,9;b3,9,9;b4,9,9;b5,9,9", "push", 0);
        dueFraction(4374, 1, "b0,9,9;b1,9,9;b2,9,9;b3,9,9;b4,9,9;b5,9,9", "push", 1);
        dueFraction(-4, 3, TWO + ";g1;m0,2", "push", 0);
        dueFraction(148, 9, TWO + ";g1;m0,2", "push", 1);
        sentence("11", "(None, if there is an OVER.)");
        kept(NO, OVER_OF_PUSH, "push", 0, 0);
        kept(NO, OVER_OF_PUSH, "push", 0, 1);
        kept(NO, OVER_OF_PUSH, "push", 1, 0);
        dueFraction(-93483, 3872, OVER_OF_ENERGY, "push", 0);
        kept(NO, OVER_OF_ENERGY, "push", 1, 0);
        kept(NO, OVER_OF_ENERGY, "push", 1, 1);
    }

    private void where() {
        sentence("12", "-5: there are not so many. NONE: k is below 0.");
        due(9, NINE_STRIKES + ";r0;v2,1", "where", 0);
        row(NINE_STRIKES, "where 8;where 9;where 0;where -1", 2, ABSENT, 2, NONE);
        row(TWENTY_THEN_NONE, "where 19;where 20;where -1", 9, ABSENT, NONE);
        row("b10,1,0", "where 0;where -1", ABSENT, NONE);
        row("", "where 0;where -1", ABSENT, NONE);
        kept(NONE, RICH, "where", -1);
        kept(NONE, RICH, "where", LEAST);
        kept(ABSENT, RICH, "where", 20);
        kept(ABSENT, RICH, "where", MOST);
    }

    private void timeAndBehind() {
        sentence("13", "NO: k (there are not so many), part.");
        bounds(NO, 0, 8, NINE_STRIKES, 0, "time", 0, 0);
        bounds(NO, 0, 19, TWENTY_THEN_NONE, 0, "time", 0, 1);
        bounds(NO, 0, 1, TWO, 1, "time", 0, 0);
        due(NO, "", "time", 0, 0);
        due(NO, "b10,1,0", "time", 0, 0);
        dueFraction(0, 1, "b0,1,-1", "time", 0);
        dueFraction(100, 1, "b0,1,1", "time", 0);
        sentence("14", "Behind STRIKE k (k -1: behind ALL)");
        sentence("14", "NO: bumper, k, what, part.");
        bounds(NO, 0, 1, TWO, 0, "behind", 0, 0, 0, 0);
        bounds(NO, -1, 8, NINE_STRIKES, 1, "behind", 2, 0, 0, 0);
        bounds(NO, -1, 19, TWENTY_THEN_NONE, 1, "behind", 2, 0, 0, 0);
        bounds(NO, 0, 1, TWO, 2, "behind", 1, 0, 0, 0);
        bounds(NO, 0, 1, TWO, 3, "behind", 1, 0, 1, 0);
        due(NO, "", "behind", 0, -1, 0, 0);
        dueFraction(40, 1, "b40,1,0", "behind", 0, -1, 0);
        due(NO, "b40,1,0", "behind", 0, 0, 0, 0);
        dueFraction(5, 1, "ln;rn;b0,1,1;b10,1,-1", "behind", 0, -1, 0);
        dueFraction(-1, 1, "ln;rn;b0,1,1;b10,1,-1", "behind", 0, -1, 1);
        dueFraction(-7, 3, TWO, "behind", 0, 0, 1);
        dueFraction(7, 3, TWO, "behind", 0, 1, 1);
        for (String setup : new String[] {NINE_STRIKES, TWENTY_THEN_NONE, OVER_OF_PUSH_THEN}) {
            long last = asked(setup, "told", 4) - 1;
            for (int i = 0; i < 4; i++) {
                long behindAll = asked(setup, "behind", 1, -1, i / 2, i % 2);
                due(behindAll, setup, "behind", 1, last, i / 2, i % 2);
                due(behindAll, setup + ";g20", "of", 1, i / 2, i % 2);
            }
        }
    }

    private void thenAndOften() {
        sentence("15", "NO: what, part; there is none.");
        bounds(NO, 0, 1, "l2;b50,4,-3;rn", 0, "then", 0, 0);
        bounds(NO, 0, 1, "l2;b50,4,-3;rn", 1, "then", 0, 0);
        dueFraction(0, 1, "", "then", 0);
        dueFraction(0, 1, "", "then", 1);
        dueFraction(-12, 1, "ln;b50,4,-3", "then", 0);
        dueFraction(6, 1, "l2;b50,4,-3;rn", "then", 0);
        dueFraction(9, 1, "l2;b50,4,-3;rn", "then", 1);
        dueFraction(68, 1, OVER_OF_PUSH_THEN, "push", 0);
        kept(NO, OVER_OF_PUSH_THEN, "then", 0, 0);
        kept(NO, OVER_OF_PUSH_THEN, "then", 0, 1);
        kept(NO, OVER_OF_PUSH_THEN, "then", 1, 0);
        sentence("16", "In how many STRIKES of ALL a BUMPER is. NONE.");
        bounds(NONE, 0, 1, TWO, 0, "often", 0);
        bounds(NONE, 0, 5, SIX, 0, "often", 0);
        due(NONE, "", "often", 0);
        due(0, "b10,1,0", "often", 0);
        due(20, "b50,1,9", "often", 0);
        row(NINE_STRIKES, "often 0;often 1;often 2;often 3;often -1", 6, 7, 3, NONE, NONE);
        row("l0;b10,1,-1;b50,1,0", "often 0;often 1", 1, 0);
        row("r0;b10,1,0;b50,1,1", "often 0;often 1", 0, 1);
        row(SIX_AT_ONCE, "often 0;often 1;often 2;often 5", 10, 20, 10, 0);
    }

    private void at() {
        sentence("17", "NO: bumper, t, part; there is none.");
        bounds(NO, 0, 1, TWO, 0, "at", 0, 0, 0);
        bounds(NO, 0, 99, TWO + ";r0;l0", 1, "at", 1, 0, 0);
        bounds(NO, 0, 1, TWO, 2, "at", 0, 0, 0);
        due(NO, "", "at", 0, 0, 0);
        sentence("17", "(t LESS TIME of the last of these, 0, if none)");
        row("ln;rn;b0,1,1;b10,1,-1", "at 0 0 0;at 0 4 0;at 0 5 0;at 0 6 0;at 0 99 0;at 1 99 0", 0, 4, 5, 4, -89, 99);
        row("b40,1,0", "at 0 0 0;at 0 99 0;at 0 100 0;at 0 -1 0", 40, 40, NO, NO);
        row("ln;b40,1,-1", "at 0 0 0;at 0 40 0;at 0 99 0", 40, 0, -59);
        row("l0;b40,1,-1", "at 0 39 0;at 0 40 0;at 0 41 0;at 0 99 0", 1, 0, 0, 0);
        row("ln;rn;b0,1,0;b10,2,-1;e0", "at 0 9 0;at 0 10 0;at 0 12 0;at 0 12 1", 0, 0, -4, 3);
        sentence("17", "by those of ALL, from the first on, whose TIME isn't above t (t LESS TIME isn't below 0)");
        row(SIX_AT_ONCE, "at 0 9 0;at 0 10 0;at 0 11 0;at 0 11 1;at 0 29 0;at 0 29 1", 19, 20, 41, 2, 59, 2);
        sentence("17", "or ALL ends by 1, 2 and there is none above t");
        row(SIX_AT_ONCE, "told 5;time 19 0;time 19 1;at 0 29 1;at 0 30 0;at 5 30 0;at 0 99 0", 1, 30, 1, 2, NO, NO, NO);
        row("b10,1,-6;b24,1,8", "told 5;time 19 0;time 19 1;at 0 84 1;at 0 85 0;at 1 86 0", 1, 85, 1, 1, NO, NO);
        row("b4,8,6;b8,7,7;r0", "told 5;at 0 15 0;at 0 16 0;at 1 16 0;at 1 99 0", 2, 94, NO, NO, NO);
        row(OVER_AT_FIRST, "told 4;told 5;at 0 0 0;at 0 99 0", 0, 2, NO, NO);
        row(TWENTY_THEN_NONE + ";g1", "told 5;at 0 99 1", 0, asked(TWENTY_THEN_NONE + ";g1", "at", 0, 99, 1));
        sentence("17", "None, if there is an OVER in that");
        row("b2,8,7;b60,1,6;e3;ln", "told 5;at 0 99 0;at 0 99 1", 0, NO, NO);
        row("b38,8,6;b95,1,6;ln;r1;g8;v0,-5", "told 5;at 1 99 0;at 1 99 1", 0, NO, NO);
        kept(NO, "b2,8,7;b60,1,6;e3;ln", "at", 0, 99, 0);
        sentence("17", "or in so asking (up to the first above t)");
        row(OVER_IN_ASKING, "told 4;told 5;at 2 0 0;at 2 70 0;at 2 71 0;at 2 99 0;at 2 71 1", 1, 0, 100, 100, NO, NO, NO);
    }

    public static void main(String[] args) {
        StrikeEdgesTest test = new StrikeEdgesTest();
        test.of();
        test.told();
        test.push();
        test.where();
        test.timeAndBehind();
        test.thenAndOften();
        test.at();
        test.end();
    }
}
