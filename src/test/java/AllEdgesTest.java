/** What the terms say of ALL (the next strike, how it is done, how it ends): each boundary case, for itself. */
public final class AllEdgesTest extends Bench {
    private void strikes(String setup, int many, int end) {
        row(setup, "told 4;told 5", many, end);
    }

    /** The first strike, its time, and the place of a bumper behind it. */
    private void first(String setup, int where, long above, long below) {
        due(where, setup, "where", 0);
        dueFraction(above, below, setup, "time", 0);
    }

    private void walls() {
        sentence("the next strike", "left wall (there is one, and BUMPERS), if SPEED of BUMPER 0 is below 0");
        strikes("", 0, 0);
        strikes("b10,1,0", 0, 0);
        strikes("r0;b10,1,1;ln", 1, 0);
        strikes("l0;b10,1,-1", 1, 0);
        strikes("ln;b10,1,-1", 0, 0);
        strikes("ln;rn;b10,1,-9;b20,1,0", 0, 0);
        first("b10,1,-1", 0, 10, 1);
        first("b10,1,-9", 0, 10, 9);
        first("b0,1,-1", 0, 0, 1);
        strikes("b0,1,0", 0, 0);
        first("rn;b0,1,-1;b50,1,-2", 0, 0, 1);
        sentence("the next strike", "right wall, if SPEED of the last one is above 0: (100 LESS its PLACE) BY SPEED");
        strikes("r0;b10,1,1", 1, 0);
        strikes("rn;b10,1,1", 0, 0);
        strikes("b0,1,0;b10,1,0", 0, 0);
        first("b10,1,1", 9, 90, 1);
        first("b99,1,9", 9, 1, 9);
        first("b10,1,0;b99,1,1", 9, 1, 1);
        dueFraction(0, 1, "r0;b98,1,2;b99,1,1;g1;g1", "time", 0);
        due(9, "rn;b40,1,9;b42,1,-9;b99,1,9;g1;r1", "where", 0);
        dueFraction(0, 1, "rn;b40,1,9;b42,1,-9;b99,1,9;g1;r1", "time", 0);
    }

    private void neighbours() {
        sentence("the next strike", "if SPEED of i LESS SPEED of i + 1 is above 0");
        strikes("ln;rn;b10,1,3;b20,1,3", 0, 0);
        strikes("ln;rn;b10,1,3;b20,1,4", 0, 0);
        strikes("ln;rn;b10,1,3;b20,1,2", 1, 0);
        strikes("ln;rn;b10,1,-3;b20,1,-3", 0, 0);
        strikes("ln;rn;b10,1,-2;b20,1,-3", 1, 0);
        strikes("ln;rn;b10,1,0;b20,1,0", 0, 0);
        first("ln;rn;b10,1,9;b11,1,-9", 1, 1, 18);
        first("ln;rn;b0,1,1;b99,1,0", 1, 99, 1);
        strikes("ln;rn;b10,1,1;b20,1,-1;e0", 1, 0);
        sentence("the next strike", "WHERE: 0 left wall, i + 1 neighbours i, i + 1, 9 right wall. None: there can be none.");
        for (int i = 0; i < 5; i++) {
            String still = "ln;rn;b10,1,0;b20,1,0;b30,1,0;b40,1,0;b50,1,0;b60,1,0";
            due(i + 1, still + ";v" + i + ",1", "where", 0);
            due(i + 1, still + ";v" + (i + 1) + ",-1;e0", "where", 0);
        }
        due(9, "b10,1,0;b20,1,0;b30,1,0;b40,1,0;b50,1,0;b60,1,1", "where", 0);
        due(0, "b10,1,-1;b20,1,0;b30,1,0;b40,1,0;b50,1,0;b60,1,0", "where", 0);
        due(ABSENT, "b10,1,0;b20,1,0;b30,1,0;b40,1,0;b50,1,0;b60,1,0", "where", 0);
    }

    private void least() {
        sentence("the next strike", "From the first on (left wall, neighbours by numbers, right wall)");
        String all = "b1,1,-1;b20,1,1;b22,1,-1;b40,1,1;b42,1,-1;b99,1,1";
        row(all, "where 0;where 1;where 2;where 3;time 0 0;time 3 0", 0, 2, 4, 9, 1, 1);
        sentence("the next strike", "if its D is LESS, it is that; the last such one");
        due(2, "b2,1,-1;b20,1,1;b22,1,-1;b40,1,1;b42,1,-1;b99,1,1", "where", 0);
        due(4, "b2,1,-1;b20,1,1;b23,1,-1;b40,1,1;b42,1,-1;b99,1,1", "where", 0);
        due(9, "b2,1,-1;b20,1,1;b23,1,-1;b40,1,1;b43,1,-1;b99,1,1", "where", 0);
        due(9, "b10,1,0;b20,1,2;b30,1,1;b98,1,1", "where", 0);
        due(3, "b10,1,2;b20,1,1;b30,1,4;b41,1,-8;b60,1,-1", "where", 0);
        due(1, "ln;rn;b10,1,2;b20,1,0;b30,1,-2;b50,1,0", "where", 0);
        due(2, "ln;rn;b10,1,2;b21,1,0;b31,1,-2;b50,1,0", "where", 0);
    }

    private void done() {
        sentence("done", "by a wall SPEED is 0 LESS (SPEED TIMES its quarters)");
        long[][] quarters = {{0, 1}, {9, 4}, {9, 2}, {27, 4}, {9, 1}};
        for (int q = 0; q <= 4; q++) {
            dueFraction(quarters[q][0], quarters[q][1], "l" + q + ";b10,1,-9;g1", "of", 0, 1);
            dueFraction(-quarters[q][0], quarters[q][1], "r" + q + ";b10,1,9;g1", "of", 0, 1);
            dueFraction(0, 1, "l" + q + ";b10,1,-9;g1", "of", 0, 0);
            dueFraction(100, 1, "r" + q + ";b10,1,9;g1", "of", 0, 0);
        }
        sentence("done", "R is (s LESS t) TIMES SPRING");
        long[][] lefts = {{1, 3}, {-1, 3}, {-1, 1}, {-5, 3}, {-7, 3}};
        long[][] rights = {{1, 3}, {2, 3}, {1, 1}, {4, 3}, {5, 3}};
        for (int q = 0; q <= 4; q++) {
            String setup = "b10,1,3;b20,2,-1;e" + q + ";g1";
            dueFraction(lefts[q][0], lefts[q][1], setup, "of", 0, 1);
            dueFraction(rights[q][0], rights[q][1], setup, "of", 1, 1);
        }
        dueFraction(-9, 1, "b10,9,9;b20,9,-9;g1", "of", 0, 1);
        dueFraction(27, 5, "b10,9,9;b20,1,-9;g1", "of", 0, 1);
        dueFraction(117, 5, "b10,9,9;b20,1,-9;g1", "of", 1, 1);
        sentence("done", "each PLACE is PLUS (SPEED TIMES D)");
        String three = "b5,1,-1;b10,1,3;b20,2,-1;b50,1,4;g1";
        dueFraction(5, 2, three, "of", 0, 0);
        dueFraction(35, 2, three, "of", 1, 0);
        dueFraction(35, 2, three, "of", 2, 0);
        dueFraction(60, 1, three, "of", 3, 0);
        dueFraction(-1, 1, three, "of", 0, 1);
        dueFraction(4, 1, three, "of", 3, 1);
    }

    private void ends() {
        sentence("ALL", "as soon as 20 are done: END 1 (no further one is looked for)");
        row("b24,9,6;b34,1,8;b40,1,1;ln", "told 4;told 5;go 1;told 4;told 5", 20, 1, 1, 19, 0);
        row("b0,5,6;l3;r1", "told 4;told 5;go 1;told 4;told 5", 20, 1, 1, 19, 2);
        row("b50,1,9", "told 4;told 5;go 1;told 4;told 5", 20, 1, 1, 20, 1);
        sentence("ALL", "else, if there is none, END 0");
        row("rn;b0,1,0;b10,1,0;b20,3,-1", "told 4;told 5;go 8;told 4;told 5;go 1;told 4;told 5", 9, 0, 8, 1, 0, 1, 0, 0);
        strikes("b10,1,0", 0, 0);
        sentence("ALL", "STRIKES one behind the other, from all as it is, TIME 0");
        dueFraction(5, 2, "b10,1,3;b20,2,-1", "time", 0);
        dueFraction(10, 1, "b10,1,3;b20,2,-1", "time", 1);
        dueFraction(15, 2, "b10,1,3;b20,2,-1;g1", "time", 0);
        row("b3,1,4;l3;r3", "told 4;told 5;go 20;told 4;told 5", 16, 2, 16, 1, 2);
    }

    private void asItIs() {
        sentence("ALL", "STRIKES one behind the other, from all as it is");
        row("b50,1,9", "told 4;wall 1 0;told 4;wall 1 1;wall 0 0;told 4;wall 0 -1;told 4", 20, 4, 1, 0, 4, 2, 0, 1);
        row("ln;rn;b10,1,0", "told 4;renew 0 1 1;told 4;bumper 50 1 0;told 4;renew 1 1 1;told 4", 0, 1, 0, 1, 1, 2, 0);
        row("rn;b0,1,0;b10,1,0;b20,3,-1", "told 4;spring 0;told 4;spring 2;told 4;renew 2 0 1;told 4", 9, 4, 20, 0, 13, 3,
            asked("rn;b0,1,0;b10,1,0;b20,1,-1;e2", "told", 4));
        row("r0;b10,1,9;b20,1,0;i", "told 4;renew 0 1 0;told 4;undo;told 4;go 1;told 4;image;undo;told 4",
            asked("r0;b10,1,9;b20,1,0", "told", 4), 2, 0, 2, asked("r0;b10,1,9;b20,1,0", "told", 4), 1,
            asked("r0;b10,1,9;b20,1,0;g1", "told", 4), 2, 2, asked("r0;b10,1,9;b20,1,0;g1", "told", 4));
        row("b10,1,3;b20,2,-1", "behind 0 0 1 0;renew 0 0 2;renew 1 0 1;behind 0 0 1 0;behind 0 0 1 1", -7, 2, 2, 1, 3);
        row("b50,1,9;fr0", "told 4;read;told 4", 20, 1, 1);
        row("b50,1,9", "odds 1 0;told 4;odds 0 0;where 19;odds 20 0;told 5", 1, 20, 1, 0, 1, 1);
        row("b50,1,9;s0,9", "fits 0 0;told 4;renew 0 1 5;fits 0 0;told 4", 5, 20, 1, 5, 20);
        row("b50,1,9;n0,0", "after 0;told 4;after 0;told 4", 0, 20, 0, 20);
    }

    /** ALL ends by an over behind so many strikes; what stands is as it was behind the last of these. */
    private void over(String what, int strikes, String setup) {
        sentence("OVER in " + what, "If there is an OVER in finding or doing it, it isn't done, and nothing of it is so.");
        row(setup, "told 4;told 5;where " + strikes + ";time " + strikes + " 0;go 20;where 0;told 4;told 5;go 20;go 1",
            strikes, 2, ABSENT, NO, strikes, ABSENT, 0, 2, 0, 0);
        if (strikes > 0) {
            for (int i = 0; i < 8; i++) {
                long behind = asked(setup, "behind", i / 4, strikes - 1, i / 2 % 2, i % 2);
                due(behind, setup, "behind", i / 4, -1, i / 2 % 2, i % 2);
                due(behind, setup + ";g20", "of", i / 4, i / 2 % 2, i % 2);
            }
        }
        kept(0, setup + (strikes > 0 ? ";g" + strikes : ""), "go", 20);
    }

    /** Each of these set-ups ends by an over in this step alone, all other steps of that strike could be worked. */
    private void overs() {
        over("SPEED LESS SPEED of neighbours that part", 17, "b0,4,8;b3,9,4;e0");
        over("SPEED LESS SPEED of neighbours that part, at first", 0, "b31,4,5;b66,9,7;b94,8,-5;e0;g8;v2,-9");
        over("the least D", 12, "b19,9,-6;b32,8,4;e1;l1");
        over("the least D, at first", 0, "b43,8,5;b68,9,0;g8;v0,6;g1;v1,-8");
        over("a D that is not the least (all are worked)", 15, "b38,4,9;b61,9,1;b78,4,7;l0;r3");
        over("a D that is not the least, at first", 0, "b19,5,7;b57,8,-7;e3;r1;g8;v0,-6;g1;v0,-9");
        over("a D LESS the least", 19, "b0,3,9;b1,2,6");
        over("a D LESS the least, at first", 0, "b50,9,7;b99,2,1;l0;r3;g6");
        over("SPEED TIMES D of one that is in the strike", 11, "b1,4,7;b67,3,6;e1");
        over("SPEED TIMES D of one that is in the strike, at first", 0, "b15,8,9;b46,5,5;r3;g7;v0,5");
        over("SPEED TIMES D of another", 11, "b3,8,5;b50,9,4;e1");
        over("PLACE PLUS of one that is in the strike", 8, "b4,7,4;b25,8,-9");
        over("PLACE PLUS of another", 11, "b5,6,7;b12,1,1");
        over("C", 18, "b0,9,8;b6,2,7;e0");
        over("the left one's SPEED", 12, "b16,6,7;b40,1,5;r1");
        over("the right one's SPEED", 12, "b0,1,0;b24,6,-1;e1");
        over("both SPEEDS", 17, "b3,6,0;b6,7,6;l0");
        over("the SPEEDS, at first", 0, "b49,9,9;b70,2,0;e3;r1;g7;v0,7");
        sentence("OVER in TIME PLUS D", "the TIME is PLUS D");
        row("b3,1,4;l3;r3", "told 4;told 5;where 16;time 16 0;go 17;told 4;told 5", 16, 2, ABSENT, NO, 16, 1, 2);
        sentence("OVER", "OVER: one of these products, sums, differences passes a long.");
        strikes("b10,2,5;b30,3,-4;b50,1,0;b70,7,-9;e3", 6, 2);
        strikes("b10,2,5;b30,3,-4;b50,1,0;b70,7,-9;e3;g5", 1, 2);
        strikes("b10,2,5;b30,3,-4;b50,1,0;b70,7,-9;e3;g6", 0, 2);
    }

    public static void main(String[] args) {
        AllEdgesTest test = new AllEdgesTest();
        test.walls();
        test.neighbours();
        test.least();
        test.done();
        test.ends();
        test.asItIs();
        test.overs();
        test.end();
    }
}
