import java.util.Random;

/** Long runs of calls, drawn by fixed seeds, on the class and on the model of the document: all answers are alike. */
public final class ModelTest {
    private static final int RUNS = 1500, CALLS = 512;
    private static final String[] CLAUSES = {"e", "l", "r", "g", "b"};
    private static final String SIGNS = "begnlr0123456789,;- \0x";

    private final Check check;
    private final Random random;
    private final RailBumpers real = new RailBumpers();
    private final Model model = new Model();
    private int calls = 0;

    private ModelTest(Check check, long seed) {
        this.check = check;
        this.random = new Random(seed);
    }

    private int in(int least, int most) {
        return least + random.nextInt(most - least + 1);
    }

    /** Mostly within the range, now and then just beside it, rarely far off. */
    private int near(int least, int most) {
        int n = random.nextInt(200);
        if (n == 0) {
            return new int[] {Integer.MIN_VALUE, Integer.MAX_VALUE, -1000, 1000}[in(0, 3)];
        }
        if (n < 5) {
            return least - 1;
        }
        return n < 10 ? most + 1 : in(least, most);
    }

    private int bumperNumber() {
        int n = model.told(0);
        return n == 0 ? near(0, 0) : near(0, n - 1);
    }

    private int where() {
        return random.nextInt(4) == 0 ? 9 : near(0, Math.max(1, model.told(0) - 1));
    }

    private void due(String call, long want, long got) {
        calls++;
        check.due(call + " as call " + calls, want, got);
    }

    private void word(String word) {
        for (int i = 0; i < word.length() && calls < CALLS; i++) {
            int sign = word.charAt(i);
            due("feed(" + sign + ")", model.feed(sign), real.feed(sign));
        }
    }

    private String clause() {
        String kind = CLAUSES[in(0, 4)];
        if (kind.equals("b")) {
            int place = Math.min(99, in(0, 25) + 15 * model.told(0));
            return "b" + place + "," + in(0, 9) + "," + in(-9, 9);
        }
        if (kind.equals("g")) {
            return "g" + (random.nextInt(8) == 0 ? in(0, 99) : in(0, 4));
        }
        return kind + (!kind.equals("e") && random.nextInt(4) == 0 ? "n" : "" + in(0, 5));
    }

    private void text() {
        StringBuilder all = new StringBuilder();
        int clauses = random.nextInt(10) == 0 ? in(11, 13) : in(1, 4);
        for (int i = 0; i < clauses; i++) {
            all.append(i == 0 ? "" : ";").append(clause());
        }
        if (random.nextInt(3) == 0) {
            int at = random.nextInt(all.length());
            all.setCharAt(at, SIGNS.charAt(random.nextInt(SIGNS.length())));
        }
        if (random.nextInt(6) == 0) {
            all.setLength(random.nextInt(all.length() + 1));
        }
        word(all.toString());
        due("read()", model.read(), real.read());
    }

    private void bumpers() {
        int place = random.nextInt(3) == 0 ? near(0, 99) : Math.min(99, in(0, 18) + 16 * model.told(0));
        int mass = near(1, 9);
        int speed = near(-9, 9);
        due("bumper(" + place + ", " + mass + ", " + speed + ")",
            model.bumper(place, mass, speed), real.bumper(place, mass, speed));
    }

    private void change() {
        switch (random.nextInt(9)) {
            case 0, 1 -> bumpers();
            case 2 -> {
                int b = bumperNumber();
                int w = near(0, 1);
                int v = w == 0 ? near(1, 9) : near(-9, 9);
                due("renew(" + b + ", " + w + ", " + v + ")", model.renew(b, w, v), real.renew(b, w, v));
            }
            case 3 -> {
                int q = near(0, 4);
                due("spring(" + q + ")", model.spring(q), real.spring(q));
            }
            case 4 -> {
                int side = near(0, 1);
                int q = near(-1, 4);
                due("wall(" + side + ", " + q + ")", model.wall(side, q), real.wall(side, q));
            }
            case 5 -> {
                int k = random.nextInt(3) == 0 ? near(0, 20) : in(0, 3);
                due("go(" + k + ")", model.go(k), real.go(k));
            }
            case 6 -> text();
            case 7 -> {
                if (random.nextInt(2) == 0) {
                    due("image()", model.image(), real.image());
                }
            }
            default -> {
                if (random.nextInt(3) == 0) {
                    due("undo()", model.undo(), real.undo());
                }
            }
        }
    }

    private void askStrikes() {
        int b = bumperNumber();
        int part = near(0, 1);
        int what = near(0, 1);
        int strikes = model.told(4);
        int k = near(0, Math.max(0, strikes - 1));
        switch (random.nextInt(9)) {
            case 0 -> due("told(" + (k % 8) + ")", model.told(k % 8), real.told(k % 8));
            case 1 -> due("push(" + what + ", " + part + ")", model.push(what, part), real.push(what, part));
            case 2 -> due("where(" + k + ")", model.where(k), real.where(k));
            case 3 -> due("time(" + k + ", " + part + ")", model.time(k, part), real.time(k, part));
            case 4 -> {
                int w = near(0, 2);
                due("of(" + b + ", " + w + ", " + part + ")", model.of(b, w, part), real.of(b, w, part));
            }
            case 5 -> {
                int kk = random.nextInt(4) == 0 ? -1 : k;
                due("behind(" + b + ", " + kk + ", " + what + ", " + part + ")",
                    model.behind(b, kk, what, part), real.behind(b, kk, what, part));
            }
            case 6 -> due("then(" + what + ", " + part + ")", model.then(what, part), real.then(what, part));
            case 7 -> due("often(" + b + ")", model.often(b), real.often(b));
            default -> {
                int t = random.nextInt(2) == 0 ? near(0, 99) : in(0, 20);
                due("at(" + b + ", " + t + ", " + part + ")", model.at(b, t, part), real.at(b, t, part));
            }
        }
    }

    /** Rows told by hand, mostly as the strikes are. */
    private void tell() {
        int strikes = model.told(4);
        int k = random.nextInt(12) == 0 ? -1 : strikes > 0 && random.nextInt(4) > 0 ? in(0, strikes - 1) : near(0, 19);
        int w = k >= 0 && k < strikes && random.nextInt(5) > 0 ? model.where(k) : where();
        switch (random.nextInt(3)) {
            case 0 -> due("see(" + k + ", " + w + ")", model.see(k, w), real.see(k, w));
            case 1 -> due("book(" + k + ", " + w + ")", model.book(k, w), real.book(k, w));
            default -> {
                int what = near(0, 3);
                int n = what == 0 ? bumperNumber() : what == 1 ? near(0, 0)
                    : what == 3 && random.nextInt(3) == 0 ? 9 : near(0, 4);
                due("event(" + what + ", " + n + ")", model.event(what, n), real.event(what, n));
            }
        }
    }

    private void askTold() {
        int part = near(0, 1);
        switch (random.nextInt(6)) {
            case 0 -> {
                int b = bumperNumber();
                due("fits(" + b + ", " + part + ")", model.fits(b, part), real.fits(b, part));
            }
            case 1 -> {
                int n = near(0, 20);
                due("odds(" + n + ", " + part + ")", model.odds(n, part), real.odds(n, part));
            }
            case 2 -> due("mean(" + part + ")", model.mean(part), real.mean(part));
            case 3 -> {
                int w = near(0, 2);
                due("after(" + w + ")", model.after(w), real.after(w));
            }
            case 4 -> due("looked()", model.looked(), real.looked());
            default -> {
                int w = near(0, 3);
                due("count(" + w + ")", model.count(w), real.count(w));
            }
        }
    }

    private void useTapes() {
        int tape = near(0, 5);
        int i = random.nextInt(4) == 0 ? near(0, 59) : in(-1, 8);
        switch (random.nextInt(6)) {
            case 0 -> {
                int sort = random.nextInt(2) == 0 ? 0 : near(-1, 4);
                int n = random.nextInt(3) == 0 ? near(0, 60) : in(0, 30);
                due("tape(" + tape + ", " + sort + ", " + n + ")", model.tape(tape, sort, n), real.tape(tape, sort, n));
            }
            case 1, 2 -> {
                long v = random.nextInt(3) == 0 ? random.nextLong() : in(-300, 300);
                due("item(" + tape + ", " + i + ", " + v + ")", model.item(tape, i, v), real.item(tape, i, v));
            }
            case 3 -> due("peek(" + tape + ", " + i + ")", model.peek(tape, i), real.peek(tape, i));
            case 4 -> {
                int other = random.nextInt(3) == 0 ? tape : near(0, 5);
                int j = in(-1, 8);
                int n = random.nextInt(4) == 0 ? near(0, 60) : in(0, 8);
                due("shift(" + tape + ", " + i + ", " + other + ", " + j + ", " + n + ")",
                    model.shift(tape, i, other, j, n), real.shift(tape, i, other, j, n));
            }
            default -> judged(tape, i);
        }
    }

    /** A tape is told the strikes, all or some of them, and judged. */
    private void judged(int tape, int i) {
        int strikes = model.told(4);
        if (random.nextInt(2) == 0 && tape >= 0 && tape <= 5 && i >= 0 && i < 60) {
            int n = Math.min(60, i + in(0, strikes + 1));
            due("tape(" + tape + ", 0, " + n + ")", model.tape(tape, 0, n), real.tape(tape, 0, n));
            for (int k = 0; k < strikes; k++) {
                int v = random.nextInt(30) == 0 ? 7 : model.where(k);
                due("item(" + tape + ", " + (i + k) + ", " + v + ")",
                    model.item(tape, i + k, v), real.item(tape, i + k, v));
            }
        }
        due("judge(" + tape + ", " + i + ")", model.judge(tape, i), real.judge(tape, i));
    }

    private void run() {
        int style = random.nextInt(4);
        int first = in(0, 6);
        for (int i = 0; i < first; i++) {
            bumpers();
        }
        while (calls < CALLS) {
            int n = random.nextInt(style == 0 ? 40 : 100);
            if (n < 8) {
                change();
            } else if (n < 14) {
                tell();
            } else if (n < 24) {
                askTold();
            } else if (n < 32) {
                useTapes();
            } else {
                askStrikes();
            }
        }
    }

    public static void main(String[] args) {
        long first = args.length > 0 ? Long.parseLong(args[0]) : 0;
        int runs = args.length > 1 ? Integer.parseInt(args[1]) : RUNS;
        Check check = new Check();
        for (long seed = first; seed < first + runs && check.allRight(); seed++) {
            check.part("seed " + seed);
            new ModelTest(check, seed).run();
        }
        check.end();
    }
}
