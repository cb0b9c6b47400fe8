import java.io.IOException;
import java.lang.reflect.Field;
import java.lang.reflect.Method;
import java.nio.file.Files;
import java.nio.file.Path;
import java.util.ArrayList;
import java.util.Arrays;
import java.util.Collections;
import java.util.List;
import java.util.TreeSet;
import java.util.regex.Matcher;
import java.util.regex.Pattern;

/**
 * The document from its first line to its last, no word left out (next looks at that): each sentence by numbers worked by
 * hand. The edges are looked at more closely in the *EdgesTest.
 */
public final class DocumentTest extends Bench {
    private static final Path SOURCE = Path.of("src/main/java/RailBumpers.java");

    /**
     * Strikes 1, 0, 9, 1 at 5/2, 10, 52, 105/2; behind them the places 35/2 35/2, 0 30, 98 100, 595/6 595/6, the speeds
     * -7/3 5/3, 7/3 5/3, 7/3 -5/3, -3 1.
     */
    private static final String TWO = "b10,1,3;b20,2,-1";

    /** The first of these strikes only. */
    private static final String FREE = "ln;rn;" + TWO;

    /** By 0, 1 quarters 1 strike; else the left one comes back from the left wall, not faster than the right one. */
    private static final String BACK = "rn;b10,1,8;b20,3,0";

    /** All three meet at the time 10, at 30, and then strike without an end. */
    private static final String MEET = "ln;rn;b10,1,3;b20,1,0;b30,1,0;e0";

    private static final String SIX = "b10,1,0;b20,1,0;b30,1,0;b40,1,0;b50,1,0;b60,1,0";
    private static final String SIX_THEN_OVER = "b10,2,5;b30,3,-4;b50,1,0;b70,7,-9;e3";
    private static final String LEFT_BEYOND = "ln;rn;b0,1,-1;b3,1,-4;g1";
    private static final String RIGHT_BEYOND = "ln;rn;b95,1,4;b99,1,1;g1";
    private static final String RIGHT_OVER = "b1,9,8;b24,8,-8;b51,5,-8;e0;g6;v2,8;g3;v0,3;g1;v0,1;g1";

    private int at = 0;

    /** The next words of the document; between these and the ones before stand only headings, fences and signs. */
    private void next(String words) {
        sentence("the document", words);
        if (document == null) {
            return;
        }
        int found = document.indexOf(words, at);
        so("these words come behind those looked at before", found >= 0);
        if (found >= 0) {
            between(document.substring(at, found));
            at = found + words.length();
        }
    }

    private void between(String gap) {
        for (String line : gap.split("\n")) {
            boolean isFrame = line.startsWith("#") || line.startsWith("```");
            so("nothing is left out ahead of this: " + line, isFrame || !line.matches(".*[A-Za-z0-9].*"));
        }
    }

    private void ends() {
        if (document != null) {
            between(document.substring(at));
        }
    }

    /** How many strikes ALL has, why there are no more, and where and when (above, below) the first ones are. */
    private void strikes(String setup, int count, int end, long... wheresAndTimes) {
        row(setup, "told 4;told 5", count, end);
        for (int k = 0; k < wheresAndTimes.length / 3; k++) {
            due(wheresAndTimes[3 * k], setup, "where", k);
            dueFraction(wheresAndTimes[3 * k + 1], wheresAndTimes[3 * k + 2], setup, "time", k);
        }
    }

    private void none(String... setups) {
        for (String setup : setups) {
            row(setup, "told 4;told 5;where 0", 0, 0, ABSENT);
        }
    }

    private void read(long want, String text) {
        row(text.isEmpty() ? "" : "f" + text, "read;count 3", want, 0);
    }

    private void whatItIs() {
        next("Bumpers on a rail: masses that strike one another and the walls, more or less springy,");
        row(TWO + ";l2;e3", "where 0;time 0 0;time 0 1;where 1;time 1 0;time 1 1", 1, 5, 2, 0, 13, 1);
        dueFraction(-5, 3, TWO + ";l2;e3", "behind", 0, 0, 1);
        dueFraction(5, 6, TWO + ";l2;e3", "behind", 0, 1, 1);
        next("all in exact fractions worked step by step and refused where a long is passed;");
        row(SIX_THEN_OVER, "told 4;told 5;where 6;time 6 0", 6, 2, ABSENT, NO);
        next("each strike in its order, when and where,");
        strikes(TWO, 20, 1, 1, 5, 2, 0, 10, 1, 9, 52, 1, 1, 105, 2);
        next("what speeds it leaves,");
        dueFraction(-7, 3, TWO, "behind", 0, 0, 1);
        next("where one is at which time;");
        dueFraction(49, 3, TWO, "at", 0, 3);
        next("how many strikes there are and why there are no more;");
        row(FREE, "told 4;told 5", 1, 0);
        next("push and energy;");
        row(TWO, "push 0 0;push 1 0", 1, 11);
        next("set-ups read from texts,");
        read(2, "b10,1,3|b20,2,-1");
        next("speeds by which it goes as seen, odds, means, events, books, strikes told by hand looked at, an image.");
        row("b50,1,0;s0,9", "fits 0 0;fits 0 1", 5, 1);
        dueFraction(3, 5, BACK, "odds", 2);
        dueFraction(3, 2, TWO, "mean");
        row(BACK + ";n2,1", "after 0", 1);
        row(TWO + ";k0,1;k1,1", "looked", 1);
        row(TWO, "image;bumper 50 1 0;undo;told 0", 2, 2, 2, 2);
        next("An object is used for at most 512 calls after it has been made; what later calls answer is free.");
        String[] calls = new String[510];
        Arrays.fill(calls, "time 3 0");
        long[] want = new long[510];
        Arrays.fill(want, 105);
        row(TWO, String.join(";", calls), want);
    }

    private void face() throws IllegalAccessException {
        so("the constants", RailBumpers.NONE == -1 && RailBumpers.BAD == -2 && RailBumpers.STATE == -3
            && RailBumpers.FULL == -4 && RailBumpers.NO == Long.MIN_VALUE);
        if (document == null) {
            return;
        }
        String fence = "```java\n";
        int from = document.indexOf(fence, at);
        int to = document.indexOf("```", from + fence.length());
        between(document.substring(at, from));
        TreeSet<String> told = new TreeSet<>();
        Matcher line = Pattern.compile("public (int|long) (\\w+)\\((.*)\\);").matcher(document.substring(from, to));
        while (line.find()) {
            told.add(line.group(1) + " " + line.group(2) + "(" + line.group(3).replaceAll("(\\w+) \\w+", "$1") + ")");
        }
        TreeSet<String> got = new TreeSet<>();
        for (Method m : RailBumpers.class.getDeclaredMethods()) {
            if (java.lang.reflect.Modifier.isPublic(m.getModifiers())) {
                List<String> types = new ArrayList<>();
                for (Class<?> type : m.getParameterTypes()) {
                    types.add(type.getName());
                }
                got.add(m.getReturnType().getName() + " " + m.getName() + "(" + String.join(", ", types) + ")");
            }
        }
        so("the face " + got + " is the document's " + told, !told.isEmpty() && told.equals(got));
        for (Field f : RailBumpers.class.getFields()) {
            so(f.getName() + " stands in the face", document.substring(from, to).contains(" " + f.getName() + " = "));
        }
        at = to;
    }

    private void bumpersAndWalls() {
        next("==== 1 BUMPERS 0 .. 5, as they come, from left to right, each with a PLACE (a fraction), a MASS (1 .. 9), "
            + "a SPEED (a fraction; below 0: to the left).");
        row("", "bumper 0 1 -9;bumper 1 9 9;bumper 50 5 0;bumper 51 2 -3;bumper 98 3 4;bumper 99 4 1;told 0",
            0, 1, 2, 3, 4, 5, 6);
        dueFraction(35, 2, TWO + ";g1", "of", 0, 0);
        dueFraction(2, 1, TWO + ";g1", "of", 1, 2);
        dueFraction(-7, 3, TWO + ";g1", "of", 0, 1);
        dueFraction(47, 1, "b50,1,-3", "at", 0, 1);
        dueFraction(53, 1, "b50,1,3", "at", 0, 1);
        next("SPRING: 0 .. 4 quarters (4 at first).");
        row("", "told 1;spring 0;spring 4;spring 2;told 1;spring 5;spring -1;told 1", 4, 4, 0, 4, 2, BAD, BAD, 2);
        next("WALLS: left (at PLACE 0), right (at PLACE 100): none, or 0 .. 4 quarters springy (4 at first).");
        strikes("b30,1,-7;rn", 1, 0, 0, 30, 7);
        dueFraction(0, 1, "b30,1,-7", "behind", 0, 0, 0);
        strikes("b30,1,7;ln", 1, 0, 9, 10, 1);
        dueFraction(100, 1, "b30,1,7", "behind", 0, 0, 0);
        row("", "told 2;told 3;wall 0 -1;wall 1 0;told 2;told 3;wall 0 4;told 2", 4, 4, 4, 4, ABSENT, 0, ABSENT, 4);
        none("b30,1,-7;ln", "b30,1,7;rn");
    }

    private void fractions() {
        next("FRACTIONS are worked with longs, step by step: TIMES: above times above, below times below;");
        dueFraction(9, 2, "l3;b30,1,-6", "behind", 0, 0, 1);
        dueFraction(-9, 8, "l3;r1;b30,1,-6", "behind", 0, 1, 1);
        next("BY: above times below of the other, below times above of the other (both turned, if the other is below 0);");
        dueFraction(7, 2, "b21,2,-6", "time", 0);
        dueFraction(15, 2, TWO + ";g1", "time", 0);
        next("PLUS, LESS: above times below of the other, and (less) above of the other times below; below times below;");
        dueFraction(10, 1, TWO, "time", 1);
        dueFraction(595, 6, TWO, "behind", 0, 3, 0);
        dueFraction(595, 6, TWO, "behind", 1, 3, 0);
        dueFraction(49, 3, TWO, "at", 0, 3);
        next("behind each step in lowest terms, above 0 below the line.");
        dueFraction(3, 1, "l2;b30,1,-6", "behind", 0, 0, 1);
        dueFraction(-7, 3, TWO, "behind", 0, 0, 1);
        dueFraction(0, 1, "l0;b30,1,-6", "behind", 0, 0, 1);
        dueFraction(0, 1, "b30,1,-6", "behind", 0, 0, 0);
        next("Whole numbers are by 1, quarters q by 4, in lowest terms.");
        dueFraction(20, 1, TWO, "of", 1, 0);
        dueFraction(-1, 1, TWO, "of", 1, 1);
        dueFraction(2, 1, TWO, "of", 1, 2);
        long[] quarters = {0, 1, 1, 4, 1, 2, 3, 4, 1, 1};
        for (int q = 0; q <= 4; q++) {
            dueFraction(quarters[2 * q], quarters[2 * q + 1], "l" + q + ";b1,1,-1", "behind", 0, 0, 1);
        }
        next("One is LESS than another, if it LESS the other is below 0.");
        strikes("b10,1,-1;b90,1,1;e0", 3, 0, 0, 10, 1, 9, 10, 1, 1, 60, 1);
        strikes("b10,1,-1;b91,1,1;e0", 3, 0, 9, 9, 1, 0, 10, 1, 1, 119, 2);
        next("OVER: one of these products, sums, differences passes a long.");
        strikes(SIX_THEN_OVER, 6, 2);
    }

    private void theNextStrike() {
        next("THE NEXT STRIKE, D for each that there can be (all are worked): left wall (there is one, and BUMPERS), if "
            + "SPEED of BUMPER 0 is below 0: its PLACE BY (0 LESS SPEED);");
        strikes("rn;b21,2,-6", 1, 0, 0, 7, 2);
        strikes("b38,4,9;b61,9,1;b78,4,7;l0;r3", 15, 2);
        none("", "ln;b21,2,-6", "b21,2,0", "rn;b21,2,6", "rn;b21,2,0;b30,1,0");
        next("each two neighbours i, i + 1, if SPEED of i LESS SPEED of i + 1 is above 0: "
            + "(PLACE of i + 1 LESS PLACE of i) BY that;");
        strikes("ln;rn;b10,1,5;b20,1,2", 1, 0, 1, 10, 3);
        strikes("ln;rn;b10,1,-5;b20,1,-9", 1, 0, 1, 5, 2);
        strikes("ln;rn;b10,1,0;b20,1,5;b41,1,2", 1, 0, 2, 7, 1);
        none("ln;rn;b10,1,2;b20,1,2", "ln;rn;b10,1,1;b20,1,2", "ln;rn;b10,1,-2;b20,1,-1;b30,1,-1");
        next("right wall, if SPEED of the last one is above 0: (100 LESS its PLACE) BY SPEED.");
        strikes("ln;b30,1,4", 1, 0, 9, 35, 2);
        strikes("ln;b10,1,4;b30,1,4", 3, 0, 9, 35, 2, 1, 20, 1, 9, 45, 2);
        none("rn;b30,1,4", "b30,1,0", "ln;b30,1,-4");
        next("From the first on (left wall, neighbours by numbers, right wall) each is compared with the least so far: "
            + "if its D is LESS, it is that; the last such one.");
        strikes("b3,1,-1;b10,1,2;b14,1,0;b99,1,1", 20, 1, 9, 1, 1, 2, 2, 1, 0, 3, 1);
        strikes("b5,1,-1;b20,1,1;b30,1,-1;b95,1,1", 20, 1, 0, 5, 1, 2, 5, 1, 9, 5, 1);
        strikes("ln;rn;b10,1,1;b20,1,-1;b40,1,1;b50,1,-1", 3, 0, 1, 5, 1, 3, 5, 1, 2, 20, 1);
        next("WHERE: 0 left wall, i + 1 neighbours i, i + 1, 9 right wall.");
        due(0, SIX + ";v0,-1", "where", 0);
        due(9, SIX + ";v5,1", "where", 0);
        for (int i = 0; i < 5; i++) {
            due(i + 1, SIX + ";v" + i + ",1;v" + (i + 1) + ",-1", "where", 0);
        }
        next("None: there can be none.");
        none("", SIX, "ln;rn;b10,1,-1;b20,1,1");
    }

    private void done() {
        next("It is DONE so: the TIME is PLUS D; each PLACE is PLUS (SPEED TIMES D);");
        long[] places = {35, 2, 35, 2, 0, 1, 30, 1, 98, 1, 100, 1, 595, 6, 595, 6};
        long[] speeds = {-7, 3, 5, 3, 7, 3, 5, 3, 7, 3, -5, 3, -3, 1, 1, 1};
        for (int k = 0; k < 4; k++) {
            for (int bumper = 0; bumper < 2; bumper++) {
                int i = 4 * k + 2 * bumper;
                dueFraction(places[i], places[i + 1], TWO, "behind", bumper, k, 0);
                dueFraction(speeds[i], speeds[i + 1], TWO, "behind", bumper, k, 1);
            }
        }
        next("then by a wall SPEED is 0 LESS (SPEED TIMES its quarters);");
        dueFraction(9, 2, "l3;r0;b30,1,-6", "behind", 0, 0, 1);
        dueFraction(0, 1, "l3;r0;b30,1,-6", "behind", 0, 1, 1);
        dueFraction(-3, 2, "r1;b30,7,6;e0", "behind", 0, 0, 1);
        next("of two (s, t SPEEDS, m, n MASSES of the left, the right one): C is (s TIMES m) PLUS (t TIMES n), "
            + "that BY (m and n, together);");
        dueFraction(1, 5, "e0;b10,2,5;b30,3,-3", "behind", 0, 0, 1);
        dueFraction(1, 5, "e0;b10,2,5;b30,3,-3", "behind", 1, 0, 1);
        next("R is (s LESS t) TIMES SPRING; the left one's SPEED is C LESS ((R TIMES n) BY (m and n)), "
            + "the right one's C PLUS ((R TIMES m) BY (m and n)).");
        long[] leftByFive = {1, -5, -11, -17, -23};
        long[] rightByFive = {1, 5, 9, 13, 17};
        for (int q = 0; q <= 4; q++) {
            String setup = "e" + q + ";b10,2,5;b30,3,-3";
            int low = q == 1 ? 1 : 5;
            dueFraction(leftByFive[q] * low / 5, low, setup, "behind", 0, 0, 1);
            dueFraction(rightByFive[q] * low / 5, low, setup, "behind", 1, 0, 1);
        }
        next("If there is an OVER in finding or doing it, it isn't done, and nothing of it is so.");
        strikes(SIX_THEN_OVER + ";g6", 0, 2);
        alike(SIX_THEN_OVER + ";g6;g1", SIX_THEN_OVER + ";g6");
    }

    private void all() {
        next("ALL: STRIKES one behind the other, from all as it is, TIME 0;");
        strikes(TWO, 20, 1, 1, 5, 2, 0, 10, 1, 9, 52, 1, 1, 105, 2);
        strikes(TWO + ";g1", 20, 1, 0, 15, 2, 9, 99, 2, 1, 50, 1);
        strikes(TWO + ";v0,-1", 20, 1, 0, 10, 1);
        row("b50,1,1", "time 0 0;go 2;of 0 1 0;time 0 0", 50, 2, 1, 100);
        // both are at 11/2, then at 11, with speeds alike: asked about both, one behind the other
        row("e0;b1,1,3;b4,2,1;g1;v0,-1;v1,1;i;v0,-6;v1,2;g2;v0,-1;v1,1",
            "of 0 0 0;of 0 0 1;time 0 0;time 0 1;undo;of 0 0 0;of 0 0 1;time 0 0;time 0 1", 11, 1, 11, 1, 2, 11, 2, 11, 2);
        next("as soon as 20 are done: END 1 (no further one is looked for);");
        row(TWO, "told 4;told 5;where 20;time 20 0", 20, 1, ABSENT, NO);
        row("b24,9,6;b34,1,8;b40,1,1;ln", "told 4;told 5;go 20;told 4;told 5", 20, 1, 20, 0, 0);
        row("b0,5,6;l3;r1", "told 4;told 5;go 20;told 4;told 5", 20, 1, 20, 0, 2);
        next("else, if there is none, END 0, if there is an OVER, END 2.");
        row(FREE, "told 4;told 5", 1, 0);
        row(SIX_THEN_OVER, "told 4;told 5", 6, 2);
        next("A BUMPER is beyond a WALL's place, if its PLACE is below 0 (left), if its PLACE LESS 100 is above 0, "
            + "or that is OVER (right).");
        row(LEFT_BEYOND, "of 0 0 0;wall 0 4;wall 1 4", -1, STATE, ABSENT);
        row(RIGHT_BEYOND, "of 1 0 0;of 1 0 1;wall 1 4;wall 0 4", 301, 3, STATE, ABSENT);
        row(RIGHT_OVER, "wall 1 4;wall 0 3", STATE, 4);
        row("ln;b0,1,-1;b50,1,9;b51,1,-9;g1", "of 1 0 0;wall 0 4;wall 1 3", 101, STATE, 4);
        row("b10,1,-1;g1;ln", "of 0 0 0;wall 0 2;told 2", 0, ABSENT, 2);
        row("b90,1,1;g1;rn", "of 0 0 0;wall 1 2;told 3", 100, ABSENT, 2);
    }

    private void setUps() {
        next("A set-up is read from THE TEXT (bytes, 100 at most): CLAUSES, 1 to 12, with ; between "
            + "(none behind the twelfth):");
        String eleven = String.join("|", Collections.nCopies(11, "e1"));
        row("f" + String.join("", Collections.nCopies(99, "x")), "count 3;feed 59;count 3;feed 59;count 3",
            99, 100, 100, FULL, 100);
        read(1, "e1");
        read(11, eleven);
        read(12, eleven + "|e2");
        read(-10 - 35, eleven + "|e2|");
        read(-10, "");
        next("b PLACE , MASS , SPEED (a BUMPER comes); e q (SPRING); l q, r q (WALL; q, or n: none); "
            + "g k (k STRIKES are gone on, fewer, if ALL ends; TIME begins anew).");
        alike("fb10,1,3|b20,2,-1|e2|l3|rn|g1;p", "b10,1,3;b20,2,-1;e2;l3;rn;g1");
        alike("fln|r0;p", "ln;r0");
        strikes("fb10,1,3|b20,2,-1|g1;p", 20, 1, 0, 15, 2);
        alike("fln|rn|b10,1,3|b20,2,-1|g20;p", FREE + ";g1");
        next("PLACE, k: 1 or 2 digits; MASS, q: a digit; SPEED: perhaps -, a digit.");
        row("fb5,1,-9|b77,9,9|g0|g00", "read;of 0 0 0;of 0 1 0;of 1 0 0;of 1 1 0", 4, 5, -9, 77, 9);
        row("fb05,1,-0", "read;of 0 0 0;of 0 1 0", 1, 5, 0);
        read(-10 - 3, "b100,1,0");
        read(-10 - 4, "b5,12,0");
        read(-10 - 3, "b5,-1,0");
        read(-10 - 6, "b5,1,12");
        read(-10 - 6, "b5,1,--2");
        read(-10 - 5, "b5,1,+2");
        read(-10 - 3, "g100");
        read(-10 - 2, "e12");
        read(-10 - 2, "l12");
        read(-10 - 1, "r-1");
        next("Nothing else stands between (no blanks).");
        read(-10, " e1");
        read(-10 - 2, "e1 ");
        read(-10 - 3, "e1| e2");
        read(-10 - 3, "b5, 1,0");
        next("The FAULT OF THE TEXT: the place of the first byte with which none begins so "
            + "(the end of THE TEXT, if it ends too early).");
        read(-10, "x");
        read(-10 - 3, "e1|x");
        read(-10 - 1, "b");
        read(-10 - 2, "b5");
        read(-10 - 3, "b5,");
        read(-10 - 4, "b5,1");
        read(-10 - 4, "b5,1|e1");
        read(-10 - 5, "b5,1,");
        read(-10 - 6, "b5,1,-");
        read(-10 - 3, "e1|");
        row("", "feed 0;read;feed 101;feed 49;feed 0;read", 1, -10, 1, 2, 3, -12);
        next("Without it they are done, one behind the other; those that would be refused aren't.");
        row("fb50,1,0|b40,1,0|e9|b60,0,0|b60,1,0|r7|g0", "read;told 0;told 1;told 3", 3, 2, 4, 4);
        row("fb50,1,0|e1|x", "read;told 0;told 1", -21, 0, 4);
        row(SIX + ";fb99,1,1|e1", "read;told 0;told 1", 1, 6, 1);
        row(LEFT_BEYOND + ";fl1|ln|r1", "read;told 2;told 3", 2, ABSENT, 1);
    }

    private void pushAndEnergy() {
        next("==== 2 All that follows is asked, and changes nothing.");
        for (String question : new String[] {"told 4", "push 0 0", "push 1 1", "where 3", "time 3 0", "behind 0 3 0 0",
            "then 0 0", "then 1 1", "often 1", "at 1 50 0", "fits 1 0", "fits 1 1", "odds 3 0", "mean 0", "after 0",
            "after 2", "looked", "judge 0 0", "count 0", "peek 1 0"}) {
            kept(RICH, question);
        }
        next("PUSH: from 0 on, BUMPER by BUMPER, PLUS (SPEED TIMES MASS).");
        dueFraction(0, 1, "", "push", 0);
        dueFraction(1, 1, TWO, "push", 0);
        dueFraction(17, 3, TWO + ";g2", "push", 0);
        next("ENERGY: likewise PLUS ((SPEED TIMES SPEED) TIMES MASS).");
        dueFraction(0, 1, "", "push", 1);
        dueFraction(11, 1, TWO, "push", 1);
        dueFraction(11, 1, TWO + ";g2", "push", 1);
        dueFraction(49, 16, "l1;b1,1,-7;g1", "push", 1);
        next("(None, if there is an OVER.)");
        row("b33,8,6;b68,7,2;b99,8,0;e0;g8;v2,2", "push 0 0;push 0 1", NO, NO);
        next("THEN: behind ALL.");
        dueFraction(1, 1, FREE + ";e2", "then", 0);
        dueFraction(3, 1, FREE + ";e2", "then", 1);
    }

    private void atATime() {
        next("AT a whole TIME t (0 .. 99): by those of ALL, from the first on, whose TIME isn't above t (t LESS TIME isn't "
            + "below 0), up to the first that is: PLACE behind them PLUS (SPEED TIMES (t LESS TIME of the last of these, "
            + "0, if none)).");
        long[] times = {0, 10, 1, 20, 1, 2, 16, 1, 18, 1, 3, 49, 3, 55, 3, 10, 0, 1, 30, 1, 11, 7, 3, 95, 3,
            52, 98, 1, 100, 1, 53, 293, 3, 299, 3};
        for (int i = 0; i < times.length; i += 5) {
            dueFraction(times[i + 1], times[i + 2], TWO, "at", 0, times[i]);
            dueFraction(times[i + 3], times[i + 4], TWO, "at", 1, times[i]);
        }
        dueFraction(-623, 3, FREE, "at", 0, 99);
        dueFraction(535, 3, FREE, "at", 1, 99);
        next("None, if there is an OVER in that, or in so asking (up to the first above t), or ALL ends by 1, 2 and there "
            + "is none above t.");
        row(MEET, "told 4;told 5;at 0 9 0;at 0 9 1;at 2 9 0;at 0 10 0;at 2 10 0;at 2 99 1", 20, 1, 57, 2, 30, NO, NO, NO);
        row("b31,4,5;b66,9,7;b94,8,-5;e0;g8;v2,-9", "told 5;at 0 0 0", 2, NO);
        row("b17,8,8;b24,9,8;b52,6,-3;e3;r3;g5;e0;v0,0;v1,7;g1;v0,-2;e4;g3;v0,0;m0,1;v1,-2;m1,1;v2,0;m2,1;ln;rn",
            "told 5;at 2 70 0;at 2 71 0", 0, 100, NO);
    }

    private void seenAndOdds() {
        next("SEEN told by hand: k (0 .. 19), WHERE (5 rows at most).");
        row("", "see 0 0;see 19 9;see 19 5;see 3 3;see 3 3;see 3 3;see 20 0;see 0 6;count 0",
            1, 2, 3, 4, 5, FULL, NONE, NONE, 5);
        next("FITS of a BUMPER: how many SPEEDS -5 .. 5 (whole ones) there are by which, were that its own, ALL would have "
            + "STRIKES k of SEEN, there (all 11 without SEEN); the least (-10: none).");
        row("b50,1,0", "fits 0 0;fits 0 1", 11, -5);
        row("b50,1,0;s0,9", "fits 0 0;fits 0 1", 5, 1);
        row("b50,1,9;s0,0", "fits 0 0;fits 0 1", 5, -5);
        row("b50,1,0;s0,9;s1,0", "fits 0 0;fits 0 1", 5, 1);
        row("b50,1,0;r0;s0,9;s1,0", "fits 0 0;fits 0 1", 0, -10);
        row("b50,1,0;s0,9;s0,0", "fits 0 0;fits 0 1", 0, -10);
        row("ln;rn;b10,1,0;b20,1,2;s0,1", "fits 0 0;fits 0 1;fits 1 0;fits 1 1", 3, 3, 5, -5);
        next("ODDS of n (0 .. 20): were SPRING 0, 1, 2, 3, 4 quarters, each alike likely: how likely ALL has n STRIKES or "
            + "more: a fraction in lowest terms.");
        for (int q = 0; q <= 4; q++) {
            dueFraction(1, 1, BACK + ";e" + q, "odds", 0);
            dueFraction(1, 1, BACK + ";e" + q, "odds", 1);
            dueFraction(3, 5, BACK + ";e" + q, "odds", 2);
            dueFraction(0, 1, BACK + ";e" + q, "odds", 3);
        }
        dueFraction(4, 5, MEET, "odds", 3);
        dueFraction(1, 1, "b50,1,1", "odds", 20);
        next("MEAN: all MASSES, together, by how many BUMPERS there are: a fraction in lowest terms (NO: none).");
        row("", "mean 0;mean 1", NO, NO);
        dueFraction(7, 1, "b1,7,0", "mean");
        dueFraction(3, 2, TWO, "mean");
        dueFraction(2, 1, "b1,1,0;b2,2,0;b3,3,0", "mean");
        dueFraction(7, 2, "b1,1,0;b2,2,0;b3,3,0;b4,4,0;b5,5,0;b6,6,0", "mean");
    }

    private void eventsAndBooks() {
        next("EVENTS told by hand: what happens (0 SPEED of BUMPER n is 0; 1 all SPEEDS are 0 LESS they were (n 0); "
            + "2 SPRING is n; 3 both WALLS are n quarters springy (9: none), each, unless a BUMPER is beyond; "
            + "8 rows at most):");
        row("b1,1,0", "event 0 0;event 1 0;event 2 4;event 3 9;event 3 0;event 1 0;event 1 0;event 1 0;event 1 0;count 1",
            1, 2, 3, 4, 5, 6, 7, 8, FULL, 8);
        row(BACK + ";n0,0", "after 0;after 1;after 2", 0, 0, ABSENT);
        row(BACK + ";n0,1", "after 0;after 1;after 2", 2, 0, 1);
        row(BACK + ";n1,0", "after 0;after 1;after 2", 3, 0, 0);
        row(BACK + ";n2,1", "after 0;after 1;after 2", 1, 0, 1);
        row(BACK + ";n3,9", "after 0;after 1;after 2", 1, 0, 1);
        row(BACK + ";n3,0", "after 0;after 1;after 2", 3, 0, 1);
        row(LEFT_BEYOND + ";n3,4", "after 0;after 1;after 2", 0, 0, ABSENT);
        row(LEFT_BEYOND + ";v1,3;n3,4", "after 0;after 1;after 2", 1, 0, 9);
        row(LEFT_BEYOND + ";v1,3;n3,4;n3,9", "after 0;after 1;after 2", 0, 0, ABSENT);
        next("AFTER, behind all of it: how many STRIKES ALL has; END; WHERE of the first (-5: none).");
        row(BACK + ";n2,1;n2,4", "after 0;after 1;after 2", 2, 0, 1);
        row(BACK + ";n1,0;n0,0", "after 0;after 1;after 2", 0, 0, ABSENT);
        row(BACK + ";n1,0;n1,0", "after 0;after 1;after 2", 2, 0, 1);
        row(TWO + ";n2,4", "after 0;after 1;after 2", 20, 1, 1);
        row(SIX_THEN_OVER + ";n2,3", "after 0;after 1;after 2", 6, 2, 1);
        next("A BOOK told by hand: k (0 .. 19), WHERE (8 rows at most):");
        row("", "book 0 0;book 19 9;book 1 5;book 1 5;book 1 5;book 1 5;book 1 5;book 1 5;book 1 5;book 20 0;count 2",
            1, 2, 3, 4, 5, 6, 7, 8, FULL, NONE, 8);
        next("LOOKED at: the number (from 0) of the first of these rows that ALL has not so (-5: none).");
        row(TWO, "looked", ABSENT);
        row(TWO + ";k0,1;k3,1;k1,0;k2,9", "looked;book 1 9;looked;book 0 9;looked", ABSENT, 5, 4, 6, 4);
        row(FREE + ";k0,1;k1,0", "looked", 1);
        next("THE IMAGE: BUMPERS, SPRING, WALLS, SEEN, EVENTS, the BOOK.");
        String taken = "b10,1,3;e1;l2;rn;s0,1;n1,0;k3,3;i";
        alike(taken + ";m0,5;v0,-2;b30,1,1;e4;ln;r0;g1;s1,1;n2,0;k0,0;u", taken);
        alike(taken + ";s-1,0;s1,2;n-1,0;n2,0;n2,1;k-1,0;k4,4;u", taken);
    }

    private void tapesAndAnswers() {
        next("==== 3 TAPES 0 .. 5 hold nothing (at first), or a row of 0 bytes, 1 shorts, 2 ints, 3 longs, "
            + "4 booleans (items 0, 1).");
        long[] kept = {0x89 - 256, 0x6789, 0x23456789, 0x123456789L, 1};
        for (int tape = 0; tape <= 5; tape++) {
            row("", "peek " + tape + " 0;item " + tape + " 0 1", NO, NOTHING);
            for (int sort = 0; sort <= 4; sort++) {
                row("t" + tape + "," + sort + ",2", "item " + tape + " 1 4886718345;peek " + tape + " 1;peek " + tape + " 0",
                    1, kept[sort], 0);
            }
        }
        next("WHERES of ALL told by a row of bytes, from a place on, STRIKE by STRIKE, are JUDGED: the first that is "
            + "otherwise (counted from 0 from that place on); -5: none; 100 and how many were looked at, if the row ends "
            + "ahead of that (or the place is below 0, or the TAPE holds nothing).");
        String told = ";x0,1,1;x0,2,0;x0,3,9";
        row(TWO + ";t0,0,5" + told, "judge 0 1;judge 0 0;judge 0 2;judge 0 5;judge 0 -1", 3, 0, 0, 100, 100);
        row(TWO + ";t0,0,4" + told, "judge 0 1", 103);
        row(TWO, "judge 0 0", 100);
        row(FREE + ";t0,0,4" + told, "judge 0 1", ABSENT);
        next("The host's refusals: NOTHING (-11): nothing is there; CAST (-12): another sort; PLACE (-13): no such place; "
            + "SIZE (-14): a size below 0.");
        row("", "item 0 0 1;tape 0 1 3;judge 0 0;item 0 3 1;tape 0 1 -1", NOTHING, 1, CAST, PLACE, SIZE);
        so("their numbers", NOTHING == -11 && CAST == -12 && PLACE == -13 && SIZE == -14);
        next("Answers: NONE (-1) no such number; BAD (-2) a number is not as told; STATE (-3) as told; FULL (-4); "
            + "the first that a call's words name.");
        row("b50,1,0", "renew 1 0 77;renew 0 2 77;renew 0 0 77;wall 2 9;bumper 40 0 0;bumper 40 1 0;event 0 9;event 4 9",
            NONE, NONE, BAD, NONE, BAD, STATE, NONE, NONE);
        row(SIX, "bumper 60 1 10;bumper 60 1 0;bumper 61 1 0", BAD, STATE, FULL);
        next("WHERE: 0 .. 5, 9.");
        row("", "see 0 -1;see 0 0;see 0 5;see 0 6;see 0 8;see 0 9;see 0 10", NONE, 1, 2, NONE, NONE, 3, NONE);
        next("What is answered so changes nothing; what is asked changes nothing.");
        kept(STATE, RICH, "bumper", 40, 1, 0);
        kept(NONE, RICH, "renew", 4, 0, 1);
        kept(BAD, RICH, "spring", 5);
        kept(NONE, RICH, "wall", 2, 1);
        kept(BAD, RICH, "go", 21);
        kept(BAD, RICH, "feed", 128);
        kept(NONE, RICH, "see", 0, 6);
        kept(BAD, RICH, "event", 2, 5);
        kept(NONE, RICH, "book", 20, 0);
        kept(BAD, RICH, "tape", 0, 0, 61);
        kept(SIZE, RICH, "tape", 0, 0, -1);
        kept(PLACE, RICH, "item", 0, 3, 1);
        kept(CAST, RICH, "shift", 0, 0, 1, 0, 1);
        next("The constants: `NO = Long.MIN_VALUE`: There is no such number.");
        row("", "of 0 0 0;time 0 0;mean 0;peek 0 0", Long.MIN_VALUE, Long.MIN_VALUE, Long.MIN_VALUE, Long.MIN_VALUE);
    }

    /** Behind what the interface says, the source has these calls, and no others ahead of what it says next. */
    private void ahead(String says, String... calls) throws IOException {
        next("Ahead of the calls `" + String.join("`, `", calls) + "` the interface says: ---- " + says + ".");
        String source = Files.readString(SOURCE);
        int from = source.indexOf("// ---- " + says + "\n");
        so("the source says: ---- " + says, from >= 0);
        if (from < 0) {
            return;
        }
        int to = source.indexOf("// ---- ", from + 1);
        List<String> got = new ArrayList<>();
        Matcher m = Pattern.compile("public (?:int|long) (\\w+)\\(").matcher(source.substring(from, to));
        while (m.find()) {
            got.add(m.group(1));
        }
        so("the calls there are " + got, got.equals(List.of(calls)));
    }

    private void interfaceSays() throws IOException {
        ahead("bumpers, springs", "bumper", "renew", "spring", "wall", "go", "feed", "read");
        ahead("what is told", "of", "told", "push");
        ahead("strikes", "where", "time", "behind", "then", "often", "at");
        ahead("seen, odds", "see", "fits", "odds", "mean");
        ahead("events, books", "event", "after", "book", "looked");
        ahead("judging, the image, tapes", "judge", "image", "undo", "count", "tape", "item", "peek", "shift");
    }

    private void oneToThree() {
        next("`RailBumpers()`: No BUMPERS.");
        row("", "told 0;of 0 0 0;often 0;image", 0, NO, NONE, 0);
        next("`int bumper(int place, int mass, int speed)`: A BUMPER comes, rightmost: its number.");
        row("b7,1,1", "bumper 8 3 -4;told 0;of 1 0 0;of 1 1 0;of 1 2 0;of 0 0 0", 1, 2, 8, -4, 3, 7);
        next("BAD: place (0 .. 99), mass, speed (-9 .. 9);");
        row("", "bumper -1 1 0;bumper 100 1 0;bumper 0 0 0;bumper 0 10 0;bumper 0 1 -10;bumper 0 1 10;told 0",
            BAD, BAD, BAD, BAD, BAD, BAD, 0);
        row("", "bumper 0 1 -9;bumper 99 9 9", 0, 1);
        next("STATE: place isn't above that of the last one (the last one's LESS it isn't below 0, or that is OVER);");
        row("b7,1,1", "bumper 7 1 1;bumper 6 1 1;bumper 8 1 1", STATE, STATE, 1);
        row(TWO + ";g1", "bumper 17 1 1;bumper 18 1 1", STATE, 2);
        row("b30,2,8;b38,4,5;b63,7,-8;e1;r0;g5;v0,0;g1;v0,-4;g1", "bumper 99 1 0;told 0", STATE, 3);
        next("FULL: 6.");
        row(SIX, "bumper 99 1 1;told 0", FULL, 6);
        next("`int renew(int bumper, int what, int v)`: MASS (what 0), SPEED (1; -9 .. 9) of a BUMPER becomes v: "
            + "how many BUMPERS there are.");
        row(TWO, "renew 1 0 9;of 1 2 0;renew 1 1 -9;of 1 1 0;of 0 2 0;of 0 1 0;of 1 0 0", 2, 9, 2, -9, 1, 3, 20);
        row(TWO + ";g1", "renew 0 1 4;of 0 1 0;of 0 1 1;of 0 0 0;of 0 0 1", 2, 4, 1, 35, 2);
        next("NONE: bumper, what; BAD.");
        row(TWO, "renew 2 0 1;renew -1 0 1;renew 0 2 1;renew 0 -1 1;renew 0 0 0;renew 0 0 10;renew 0 1 10;renew 0 1 -10",
            NONE, NONE, NONE, NONE, BAD, BAD, BAD, BAD);
    }

    private void fourToSix() {
        next("`int spring(int q)`: SPRING becomes q: what it was.");
        row(FREE, "spring 2;spring 0;told 1;behind 0 0 1 0;behind 0 0 1 1;spring 2;behind 0 0 1 0", 4, 2, 0, 1, 3, 0, -1);
        next("BAD.");
        row("", "spring -1;spring 5;told 1", BAD, BAD, 4);
        next("`int wall(int side, int q)`: The WALL left (side 0), right (1) becomes so springy (-1: there is none): "
            + "what it was (-5: none).");
        row("b50,1,-5", "wall 0 1;where 0;behind 0 0 1 0;behind 0 0 1 1;wall 0 -1;where 0;wall 0 0;told 2;told 3",
            4, 0, 5, 4, 1, ABSENT, ABSENT, 0, 4);
        row("b50,1,5", "wall 1 1;where 0;behind 0 0 1 0;behind 0 0 1 1;wall 1 -1;where 0;wall 1 0;told 3;told 2",
            4, 9, -5, 4, 1, ABSENT, ABSENT, 0, 4);
        next("NONE: side; BAD: q; STATE: a BUMPER is beyond (and it would be one).");
        row("", "wall -1 0;wall 2 0;wall 0 -2;wall 0 5;wall 1 5", NONE, NONE, BAD, BAD, BAD);
        row(LEFT_BEYOND, "wall 0 0;wall 0 -1;told 2", STATE, ABSENT, ABSENT);
        row(RIGHT_BEYOND, "wall 1 0;wall 1 -1;told 3", STATE, ABSENT, ABSENT);
        next("`int go(int k)`: So many of ALL are DONE truly: PLACES, SPEEDS are as behind them: "
            + "how many there were (fewer, if ALL ends).");
        row(TWO, "go 0;of 0 0 0;go 3;of 0 0 0;of 0 1 0;of 0 1 1;of 1 0 0;of 1 1 0;of 1 1 1;time 0 0;time 0 1",
            0, 10, 3, 98, 7, 3, 100, -5, 3, 1, 2);
        row(FREE, "go 20;go 20;of 0 1 0;told 1;told 2", 1, 0, -7, 4, ABSENT);
        row(SIX_THEN_OVER, "go 5;go 5;go 5", 5, 1, 0);
        next("BAD: 0 .. 20.");
        row(TWO, "go -1;go 21;of 0 0 0;go 20", BAD, BAD, 10, 20);
    }

    private void sevenAndEight() {
        next("`int feed(int sign)`: A sign (0 .. 127) comes behind THE TEXT's: how many it has.");
        row("", "feed 0;feed 127;feed 101;count 3", 1, 2, 3, 3);
        row("", "feed 101;feed 49;read;told 1", 1, 2, 1, 1);
        next("BAD; FULL.");
        row("", "feed -1;feed 128;count 3", BAD, BAD, 0);
        row("f" + String.join("", Collections.nCopies(100, "e")), "feed 101;feed 128;count 3;read;feed 101",
            FULL, BAD, 100, -11, 1);
        next("`int read()`: THE TEXT, which is empty then (by a FAULT, too), is a set-up: how many CLAUSES were done; "
            + "-10 less the FAULT OF THE TEXT.");
        read(5, "b10,2,5|b30,3,-4|b50,1,0|b70,7,-9|e3");
        read(5, "ln|r2|g2|b5,1,1|b99,1,9|e7|b0,1,0");
        read(-19, "b10,2,5|b,3,-4");
    }

    private void nineToEleven() {
        next("`long of(int bumper, int what, int part)`: Of a BUMPER PLACE (what 0), SPEED (1), MASS (2; by 1); "
            + "part 0 above, 1 below the line.");
        row(TWO + ";g1", "of 1 0 0;of 1 0 1;of 1 1 0;of 1 1 1;of 1 2 0;of 1 2 1", 35, 2, 5, 3, 2, 1);
        next("NO: bumper, what, part.");
        row(TWO, "of 2 0 0;of -1 0 0;of 0 3 0;of 0 -1 0;of 0 0 2;of 0 0 -1;of 0 2 2", NO, NO, NO, NO, NO, NO, NO);
        next("`int told(int what)`: What 0 BUMPERS, 1 SPRING, 2 the left WALL (-5: none), 3 the right one (-5), "
            + "4 how many STRIKES ALL has, 5 END.");
        row(TWO + ";l2;r1;e3", "told 0;told 1;told 2;told 3", 2, 3, 2, 1);
        row(TWO + ";ln;r3", "told 2;told 3;told 4;told 5", ABSENT, 3, 2, 0);
        next("NONE.");
        row(TWO, "told -1;told 6", NONE, NONE);
        next("`long push(int what, int part)`: PUSH (what 0), ENERGY (1) now; part likewise.");
        row(TWO + ";e2;g1", "push 0 0;push 0 1;push 1 0;push 1 1", 1, 1, 3, 1);
        row("l1;b1,2,-7;g1", "push 0 0;push 0 1;push 1 0;push 1 1", 7, 2, 49, 8);
        next("NO: what, part; there is none.");
        row(TWO, "push -1 0;push 2 0;push 0 -1;push 0 2;push 1 2", NO, NO, NO, NO, NO);
        row("b50,9,7;b99,2,1;l0;r3;g6", "push 0 1;push 1 0;push 1 1", 3872, NO, NO);
    }

    private void twelveToFourteen() {
        next("`int where(int k)`: WHERE STRIKE k (from 0) of ALL is; -5: there are not so many.");
        row(TWO, "where 0;where 1;where 2;where 3;where 20", 1, 0, 9, 1, ABSENT);
        row(FREE, "where 0;where 1;where " + MOST, 1, ABSENT, ABSENT);
        next("NONE: k is below 0.");
        row(TWO, "where -1;where " + LEAST, NONE, NONE);
        next("`long time(int k, int part)`: TIME of STRIKE k; part likewise.");
        row(TWO, "time 0 0;time 0 1;time 1 0;time 1 1;time 3 0;time 3 1", 5, 2, 10, 1, 105, 2);
        next("NO: k (there are not so many), part.");
        row(FREE, "time 1 0;time 1 1;time -1 0;time 0 2;time 0 -1;time 0 1", NO, NO, NO, NO, NO, 2);
        next("`long behind(int bumper, int k, int what, int part)`: Behind STRIKE k (k -1: behind ALL) PLACE (what 0), "
            + "SPEED (1) of a BUMPER; part likewise.");
        row(TWO, "behind 1 2 0 0;behind 1 2 0 1;behind 1 2 1 0;behind 1 2 1 1", 100, 1, -5, 3);
        row(FREE, "behind 0 -1 0 0;behind 0 -1 0 1;behind 0 -1 1 0;behind 0 -1 1 1", 35, 2, -7, 3);
        row("ln;" + TWO + ";v0,-1;v1,-1", "behind 1 -1 0 0;behind 1 -1 1 0", 20, -1);
        next("NO: bumper, k, what, part.");
        row(FREE, "behind 2 0 0 0;behind -1 0 0 0;behind 0 1 0 0;behind 0 -2 0 0;behind 0 0 2 0;behind 0 0 -1 0;"
            + "behind 0 0 0 2;behind 0 0 0 -1", NO, NO, NO, NO, NO, NO, NO, NO);
    }

    private void fifteenToSeventeen() {
        next("`long then(int what, int part)`: THEN PUSH (what 0), ENERGY (1); part likewise.");
        row(FREE + ";e2", "then 0 0;then 0 1;then 1 0;then 1 1;push 1 0", 1, 1, 3, 1, 11);
        row("rn;l1;b1,2,-7", "then 0 0;then 0 1;then 1 0;then 1 1", 7, 2, 49, 8);
        row("", "then 0 0;then 0 1;then 1 0;then 1 1", 0, 1, 0, 1);
        next("NO: what, part; there is none.");
        row(FREE, "then -1 0;then 2 0;then 0 2;then 1 -1", NO, NO, NO, NO);
        row("b0,4,8;b3,9,4;e0", "push 0 0;then 0 0;then 0 1", 68, NO, NO);
        next("`int often(int bumper)`: In how many STRIKES of ALL a BUMPER is.");
        row("ln;b10,1,4;b30,1,4", "often 0;often 1", 1, 3);
        row("ln;rn;b10,1,1;b20,1,-1;b40,1,1;b50,1,-1", "often 0;often 1;often 2;often 3", 1, 2, 2, 1);
        row(BACK, "often 0;often 1", 2, 1);
        row("b50,1,1", "often 0", 20);
        next("NONE.");
        row(TWO, "often -1;often 2", NONE, NONE);
        next("`long at(int bumper, int t, int part)`: PLACE of a BUMPER AT TIME t; part likewise.");
        row(TWO, "at 0 3 0;at 0 3 1;at 1 3 0;at 1 3 1;at 1 52 0;at 1 52 1", 49, 3, 55, 3, 100, 1);
        next("NO: bumper, t, part; there is none.");
        row(TWO, "at 2 3 0;at -1 3 0;at 0 -1 0;at 0 100 0;at 0 3 2;at 0 3 -1", NO, NO, NO, NO, NO, NO);
        row(MEET, "at 0 9 1;at 0 10 0;at 0 10 1", 2, NO, NO);
    }

    private void eighteenToTwentyOne() {
        next("`int see(int k, int where)`: What is SEEN comes: how many there are "
            + "(k -1: none then, 0, whatever the rest is).");
        row(TWO + ";s0,1", "see 1 0;fits 0 0;fits 0 1;see 2 9;count 0;see -1 77;count 0;fits 0 0", 2, 6, 0, 3, 3, 0, 0, 11);
        next("NONE: k (0 .. 19), where; FULL: 5.");
        row("", "see -2 0;see 20 0;see 0 6;see 0 -1;see 19 9;count 0", NONE, NONE, NONE, NONE, 1, 1);
        row("s0,1;s1,1;s2,1;s3,1;s4,1", "see 5 1;see 5 6;count 0", FULL, NONE, 5);
        next("`int fits(int bumper, int what)`: FITS: what 0 how many, 1 the least (-10: none).");
        row("b50,1,9;s0,9", "fits 0 0;fits 0 1;of 0 1 0", 5, 1, 9);
        row("b50,1,9;rn;s0,9", "fits 0 0;fits 0 1", 0, -10);
        next("NONE: bumper, what.");
        row(TWO, "fits 2 0;fits -1 0;fits 0 2;fits 0 -1", NONE, NONE, NONE, NONE);
        next("`long odds(int n, int part)`: ODDS; part 0 above, 1 below the line.");
        row(BACK, "odds 2 0;odds 2 1;odds 1 0;odds 1 1;odds 20 0;odds 20 1;told 1", 3, 5, 1, 1, 0, 1, 4);
        next("NO: n, part.");
        row(BACK, "odds -1 0;odds 21 0;odds 0 2;odds 0 -1", NO, NO, NO, NO);
        next("`long mean(int part)`: MEAN; part likewise.");
        row("b1,9,0;b2,6,0;b3,6,0;b4,5,0", "mean 0;mean 1", 13, 2);
        next("NO.");
        row(TWO, "mean 2;mean -1", NO, NO);
        row("", "mean 0", NO);
    }

    private void twentyTwoToTwentyFive() {
        next("`int event(int what, int n)`: A row comes to EVENTS: how many there are "
            + "(what -1: none then, 0, whatever the rest is).");
        row(BACK, "event 1 0;after 0;event 1 0;after 0;count 1;event -1 77;count 1;after 0", 1, 3, 2, 2, 2, 0, 0, 2);
        next("NONE: what (0 .. 3), BUMPER n; BAD: n (by 1: 0; by 2: 0 .. 4; by 3: 0 .. 4, 9); FULL: 8.");
        row(BACK, "event -2 0;event 4 0;event 0 2;event 0 -1;event 0 1", NONE, NONE, NONE, NONE, 1);
        row(BACK, "event 1 1;event 1 -1;event 2 -1;event 2 5;event 3 -1;event 3 5;event 3 8;event 3 10",
            BAD, BAD, BAD, BAD, BAD, BAD, BAD, BAD);
        row(BACK, "event 2 0;event 2 4;event 3 0;event 3 4;event 3 9", 1, 2, 3, 4, 5);
        row(BACK + ";n1,0;n1,0;n1,0;n1,0;n1,0;n1,0;n1,0;n1,0", "event 1 0;event 1 1;event 0 2;count 1", FULL, BAD, NONE, 8);
        next("`int after(int what)`: AFTER: what 0 how many, 1 END, 2 WHERE (-5).");
        row(BACK + ";n1,0", "after 0;after 1;after 2;told 4;where 0;of 0 1 0", 3, 0, 0, 2, 1, 8);
        row(BACK + ";n0,0", "after 0;after 1;after 2", 0, 0, ABSENT);
        next("NONE.");
        row(BACK, "after -1;after 3", NONE, NONE);
        next("`int book(int k, int where)`: A row comes to the BOOK: how many there are "
            + "(k -1: it is empty then, 0, whatever the rest is).");
        row(TWO, "book 0 9;looked;book 0 1;looked;count 2;book -1 77;count 2;looked", 1, 0, 2, 0, 2, 0, 0, ABSENT);
        next("NONE: k, where; FULL: 8.");
        row("", "book -2 0;book 20 0;book 0 6;book 0 -1;book 19 9;count 2", NONE, NONE, NONE, NONE, 1, 1);
        row("k0,1;k1,1;k2,1;k3,1;k4,1;k5,1;k6,1;k7,1", "book 8 1;book 8 6;count 2", FULL, NONE, 8);
        next("`int looked()`: LOOKED at; -5.");
        row(TWO, "looked;book 2 9;looked;book 0 2;looked", ABSENT, 1, ABSENT, 2, 1);
    }

    private void twentySixToTwentyNine() {
        next("`int judge(int tape, int i)`: JUDGED from place i of a TAPE on (-5: no STRIKES, also if it holds nothing; "
            + "NONE, CAST go ahead of that).");
        row(FREE + ";t2,0,2;x2,1,1", "judge 2 1;judge 2 0;judge 2 2;judge 2 -1;judge 3 0", ABSENT, 0, 100, 100, 100);
        row("t2,0,2;t3,1,2", "judge 2 0;judge 2 9;judge 2 -1;judge 1 0;judge 3 0;judge 6 0",
            ABSENT, ABSENT, ABSENT, ABSENT, CAST, NONE);
        next("NONE: tape; CAST: it is no row of bytes.");
        row(TWO + ";t0,0,1;t1,1,1;t2,2,1;t3,3,1;t4,4,1;x0,0,1",
            "judge 0 0;judge 1 0;judge 2 0;judge 3 0;judge 4 0;judge 5 0;judge -1 0;judge 6 0",
            101, CAST, CAST, CAST, CAST, 100, NONE, NONE);
        next("`int image()`: THE IMAGE is taken: how many BUMPERS there are.");
        row(TWO, "image;bumper 50 1 1;image;bumper 60 1 1;undo", 2, 2, 3, 3, 3);
        next("`int undo()`: All is as THE IMAGE (THE TEXT and the TAPES stay as they are): how many BUMPERS.");
        row(TWO + ";i;g1;fe1;t0,0,1;x0,0,7", "undo;of 0 0 0;count 3;peek 0 0;read;told 1;undo;told 1",
            2, 10, 2, 7, 1, 1, 2, 4);
        row("i;" + TWO, "undo;told 0;of 0 0 0", 0, 0, NO);
        next("STATE: there is none.");
        row(TWO, "undo;told 0;image;undo", STATE, 2, 2, 2);
        next("`int count(int what)`: How many: 0 SEEN, 1 EVENTS, 2 of the BOOK, 3 bytes of THE TEXT.");
        row("s0,1;n1,0;n1,0;k0,1;k0,1;k0,1;fabcd", "count 0;count 1;count 2;count 3", 1, 2, 3, 4);
        next("BAD.");
        row("", "count -1;count 4;count 0", BAD, BAD, 0);
    }

    private void thirtyToThirtyThree() {
        next("`int tape(int tape, int sort, int n)`: A TAPE becomes a row of n (0 .. 60) of a sort, all 0, or holds nothing "
            + "(sort -1: n does not matter): 1.");
        row("", "tape 0 0 60;peek 0 59;peek 0 60;item 0 59 5;tape 0 0 60;peek 0 59", 1, 0, NO, 1, 1, 0);
        row("t0,0,9", "tape 0 3 0;peek 0 0;item 0 0 1;tape 0 -1 -7;item 0 0 1", 1, NO, PLACE, 1, NOTHING);
        next("NONE: tape; BAD: sort, n above 60; SIZE.");
        row("t0,0,1;x0,0,5", "tape 6 0 1;tape -1 9 1;tape 0 5 1;tape 0 -2 1;tape 0 0 61;tape 0 5 -1;tape 0 4 -1;peek 0 0",
            NONE, NONE, BAD, BAD, BAD, BAD, SIZE, 5);
        next("`int item(int tape, int i, long v)`: Item i of a TAPE becomes v (its lowest bits, as many as an item has; "
            + "booleans: whether v is not 0): 1.");
        row("t0,0,2;t1,1,1;t2,2,1;t3,3,1;t4,4,1", "item 0 1 200;peek 0 1;peek 0 0;item 1 0 40000;peek 1 0;"
            + "item 2 0 3000000000;peek 2 0;item 3 0 3000000000;peek 3 0;item 4 0 4294967296;peek 4 0;item 4 0 0;peek 4 0",
            1, -56, 0, 1, -25536, 1, -1294967296, 1, 3000000000L, 1, 1, 1, 0);
        next("NONE; NOTHING; PLACE.");
        row("t0,0,2", "item 6 0 1;item -1 0 1;item 1 0 1;item 1 -1 1;item 0 2 1;item 0 -1 1",
            NONE, NONE, NOTHING, NOTHING, PLACE, PLACE);
        next("`long peek(int tape, int i)`: Item i of a TAPE.");
        row("t5,3,2;x5,0,-8;x5,1,9", "peek 5 0;peek 5 1", -8, 9);
        next("NO: no such TAPE, nothing there, no such place.");
        row("t5,3,2", "peek 6 0;peek -1 0;peek 4 0;peek 5 2;peek 5 -1", NO, NO, NO, NO, NO);
        next("`int shift(int tape, int i, int other, int j, int n)`: n items of a TAPE from i on come to another one "
            + "(or the same) from j on, as they all were before: n.");
        String five = "t0,2,5;x0,0,1;x0,1,2;x0,2,3;x0,3,4;x0,4,5";
        String looks = ";peek 0 0;peek 0 1;peek 0 2;peek 0 3;peek 0 4";
        row(five, "shift 0 0 0 1 4" + looks, 4, 1, 1, 2, 3, 4);
        row(five, "shift 0 1 0 0 4" + looks, 4, 2, 3, 4, 5, 5);
        row(five + ";t1,2,3", "shift 0 2 1 1 2;peek 1 0;peek 1 1;peek 1 2" + looks, 2, 0, 3, 4, 1, 2, 3, 4, 5);
        row(five, "shift 0 5 0 5 0" + looks, 0, 1, 2, 3, 4, 5);
        next("NONE: tapes; NOTHING; CAST: of unlike sorts; PLACE: n, i or j is below 0, or beyond either's end.");
        row(five + ";t1,3,3;t2,2,2", "shift 6 0 0 0 1;shift 0 0 -1 0 1;shift 0 0 5 0 1;shift 5 0 0 0 1;shift 0 0 1 0 1;"
            + "shift 0 -1 2 0 1;shift 0 0 2 -1 1;shift 0 0 2 0 -1;shift 0 4 2 0 2;shift 0 0 2 1 2;shift 0 0 2 0 3",
            NONE, NONE, NOTHING, NOTHING, CAST, PLACE, PLACE, PLACE, PLACE, PLACE, PLACE);
        row(five + ";t2,2,2", "shift 0 6 2 0 0;shift 0 0 2 3 0;shift 0 5 2 2 0;shift 0 3 2 0 2", PLACE, PLACE, 0, 2);
    }

    /** What is free has nothing to look at. */
    private void notPromised() {
        next("How the state is held inside the object is free, as are the speed of each call, the text of toString and the "
            + "behaviour of equals and hashCode. Use of one object from several threads at once is not promised to be safe. "
            + "Nothing is promised beyond the answers and state changes described above, and nothing about an object after "
            + "its 512th call.");
        ends();
    }

    public static void main(String[] args) throws IOException, IllegalAccessException {
        DocumentTest test = new DocumentTest();
        test.whatItIs();
        test.face();
        test.bumpersAndWalls();
        test.fractions();
        test.theNextStrike();
        test.done();
        test.all();
        test.setUps();
        test.pushAndEnergy();
        test.atATime();
        test.seenAndOdds();
        test.eventsAndBooks();
        test.tapesAndAnswers();
        test.interfaceSays();
        test.oneToThree();
        test.fourToSix();
        test.sevenAndEight();
        test.nineToEleven();
        test.twelveToFourteen();
        test.fifteenToSeventeen();
        test.eighteenToTwentyOne();
        test.twentyTwoToTwentyFive();
        test.twentySixToTwentyNine();
        test.thirtyToThirtyThree();
        test.notPromised();
        test.end();
    }
}
