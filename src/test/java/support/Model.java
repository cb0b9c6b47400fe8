import java.math.BigInteger;
import java.util.ArrayList;
import java.util.Arrays;
import java.util.List;

/**
 * The document once more, written apart from the class and in another way (big numbers, immutable values, exceptions,
 * nothing kept between calls), so that runs of calls on both can be compared.
 */
final class Model {
    static final int NONE = -1, BAD = -2, STATE = -3, FULL = -4;
    static final int NOTHING = -11, CAST = -12, PLACE = -13, SIZE = -14;
    static final long NO = Long.MIN_VALUE;

    static final class Over extends RuntimeException {
        private static final long serialVersionUID = 1L;

        Over() {
            super("over", null, false, false);
        }
    }

    record Frac(BigInteger n, BigInteger d) {
        static final BigInteger LEAST = BigInteger.valueOf(Long.MIN_VALUE);
        static final BigInteger MOST = BigInteger.valueOf(Long.MAX_VALUE);

        static BigInteger fit(BigInteger x) {
            if (x.compareTo(LEAST) < 0 || x.compareTo(MOST) > 0) {
                throw new Over();
            }
            return x;
        }

        static Frac lowest(BigInteger n, BigInteger d) {
            if (d.signum() < 0) {
                return lowest(n.negate(), d.negate());
            }
            BigInteger g = n.gcd(d);
            return new Frac(fit(n.divide(g)), fit(d.divide(g)));
        }

        static Frac of(long n, long d) {
            return lowest(BigInteger.valueOf(n), BigInteger.valueOf(d));
        }

        static Frac of(long n) {
            return of(n, 1);
        }

        Frac times(Frac o) {
            return lowest(fit(n.multiply(o.n)), fit(d.multiply(o.d)));
        }

        Frac by(Frac o) {
            return lowest(fit(n.multiply(o.d)), fit(d.multiply(o.n)));
        }

        Frac plus(Frac o) {
            return lowest(fit(fit(n.multiply(o.d)).add(fit(o.n.multiply(d)))), fit(d.multiply(o.d)));
        }

        Frac less(Frac o) {
            return lowest(fit(fit(n.multiply(o.d)).subtract(fit(o.n.multiply(d)))), fit(d.multiply(o.d)));
        }

        int sign() {
            return n.signum();
        }

        long part(int part) {
            return (part == 0 ? n : d).longValueExact();
        }
    }

    record Body(Frac place, int mass, Frac speed) {
        Body withSpeed(Frac s) {
            return new Body(place, mass, s);
        }
    }

    /** Walls: null for none. */
    record Scene(List<Body> bodies, int spring, Integer left, Integer right) {
        Body last() {
            return bodies.get(bodies.size() - 1);
        }

        Scene withBodies(List<Body> list) {
            return new Scene(List.copyOf(list), spring, left, right);
        }

        Scene withBody(int i, Body b) {
            List<Body> list = new ArrayList<>(bodies);
            list.set(i, b);
            return withBodies(list);
        }

        Scene withSpring(int q) {
            return new Scene(bodies, q, left, right);
        }

        Scene withWall(int side, Integer q) {
            return side == 0 ? new Scene(bodies, spring, q, right) : new Scene(bodies, spring, left, q);
        }

        boolean beyond(int side) {
            for (Body b : bodies) {
                if (side == 0 && b.place.sign() < 0) {
                    return true;
                }
                if (side == 1) {
                    try {
                        if (b.place.less(Frac.of(100)).sign() > 0) {
                            return true;
                        }
                    } catch (Over o) {
                        return true;
                    }
                }
            }
            return false;
        }
    }

    record Hit(int where, Frac delay) { }

    record Strike(int where, Frac time, Scene scene) { }

    record All(Scene start, List<Strike> strikes, int end) {
        Scene behind() {
            return strikes.isEmpty() ? start : strikes.get(strikes.size() - 1).scene;
        }

        boolean has(int k, int where) {
            return k < strikes.size() && strikes.get(k).where == where;
        }
    }

    record Row(int a, int b) { }

    record State(Scene scene, List<Row> seen, List<Row> events, List<Row> book) { }

    private Scene scene = new Scene(List.of(), 4, 4, 4);
    private List<Row> seen = new ArrayList<>();
    private List<Row> events = new ArrayList<>();
    private List<Row> book = new ArrayList<>();
    private State image = null;
    private final StringBuilder text = new StringBuilder();
    private final int[] sorts = {-1, -1, -1, -1, -1, -1};
    private final long[][] rows = new long[6][];

    // ---- the terms

    static Hit next(Scene s) {
        List<Hit> hits = new ArrayList<>();
        if (s.bodies.isEmpty()) {
            return null;
        }
        Body first = s.bodies.get(0);
        if (s.left != null && first.speed.sign() < 0) {
            hits.add(new Hit(0, first.place.by(Frac.of(0).less(first.speed))));
        }
        for (int i = 0; i + 1 < s.bodies.size(); i++) {
            Body a = s.bodies.get(i);
            Body b = s.bodies.get(i + 1);
            Frac closing = a.speed.less(b.speed);
            if (closing.sign() > 0) {
                hits.add(new Hit(i + 1, b.place.less(a.place).by(closing)));
            }
        }
        if (s.right != null && s.last().speed.sign() > 0) {
            hits.add(new Hit(9, Frac.of(100).less(s.last().place).by(s.last().speed)));
        }
        Hit least = null;
        for (Hit h : hits) {
            if (least == null || h.delay.less(least.delay).sign() < 0) {
                least = h;
            }
        }
        return least;
    }

    static Scene done(Scene s, Hit h) {
        List<Body> list = new ArrayList<>();
        for (Body b : s.bodies) {
            list.add(new Body(b.place.plus(b.speed.times(h.delay)), b.mass, b.speed));
        }
        if (h.where == 0 || h.where == 9) {
            int i = h.where == 0 ? 0 : list.size() - 1;
            Frac q = Frac.of(h.where == 0 ? s.left : s.right, 4);
            list.set(i, list.get(i).withSpeed(Frac.of(0).less(list.get(i).speed.times(q))));
            return s.withBodies(list);
        }
        Body a = list.get(h.where - 1);
        Body b = list.get(h.where);
        Frac m = Frac.of(a.mass);
        Frac n = Frac.of(b.mass);
        Frac both = Frac.of(a.mass + b.mass);
        Frac c = a.speed.times(m).plus(b.speed.times(n)).by(both);
        Frac r = a.speed.less(b.speed).times(Frac.of(s.spring, 4));
        list.set(h.where - 1, a.withSpeed(c.less(r.times(n).by(both))));
        list.set(h.where, b.withSpeed(c.plus(r.times(m).by(both))));
        return s.withBodies(list);
    }

    static All all(Scene start) {
        List<Strike> strikes = new ArrayList<>();
        Scene s = start;
        Frac time = Frac.of(0);
        try {
            while (strikes.size() < 20) {
                Hit h = next(s);
                if (h == null) {
                    return new All(start, strikes, 0);
                }
                Frac then = time.plus(h.delay);
                s = done(s, h);
                time = then;
                strikes.add(new Strike(h.where, time, s));
            }
            return new All(start, strikes, 1);
        } catch (Over o) {
            return new All(start, strikes, 2);
        }
    }

    private All all() {
        return all(scene);
    }

    private boolean isBody(int i) {
        return i >= 0 && i < scene.bodies.size();
    }

    private static boolean in(int x, int least, int most) {
        return x >= least && x <= most;
    }

    private static boolean isWhere(int w) {
        return in(w, 0, 5) || w == 9;
    }

    // ---- the calls

    int bumper(int place, int mass, int speed) {
        if (!in(place, 0, 99) || !in(mass, 1, 9) || !in(speed, -9, 9)) {
            return BAD;
        }
        if (!scene.bodies.isEmpty()) {
            try {
                if (scene.last().place.less(Frac.of(place)).sign() >= 0) {
                    return STATE;
                }
            } catch (Over o) {
                return STATE;
            }
        }
        if (scene.bodies.size() == 6) {
            return FULL;
        }
        List<Body> list = new ArrayList<>(scene.bodies);
        list.add(new Body(Frac.of(place), mass, Frac.of(speed)));
        scene = scene.withBodies(list);
        return list.size() - 1;
    }

    int renew(int bumper, int what, int v) {
        if (!isBody(bumper) || !in(what, 0, 1)) {
            return NONE;
        }
        Body b = scene.bodies.get(bumper);
        if (what == 0) {
            if (!in(v, 1, 9)) {
                return BAD;
            }
            scene = scene.withBody(bumper, new Body(b.place, v, b.speed));
        } else {
            if (!in(v, -9, 9)) {
                return BAD;
            }
            scene = scene.withBody(bumper, b.withSpeed(Frac.of(v)));
        }
        return scene.bodies.size();
    }

    int spring(int q) {
        if (!in(q, 0, 4)) {
            return BAD;
        }
        int was = scene.spring;
        scene = scene.withSpring(q);
        return was;
    }

    int wall(int side, int q) {
        if (!in(side, 0, 1)) {
            return NONE;
        }
        if (!in(q, -1, 4)) {
            return BAD;
        }
        if (q >= 0 && scene.beyond(side)) {
            return STATE;
        }
        Integer was = side == 0 ? scene.left : scene.right;
        scene = scene.withWall(side, q < 0 ? null : Integer.valueOf(q));
        return was == null ? -5 : was;
    }

    int go(int k) {
        if (!in(k, 0, 20)) {
            return BAD;
        }
        List<Strike> strikes = all().strikes;
        int done = Math.min(k, strikes.size());
        if (done > 0) {
            scene = strikes.get(done - 1).scene;
        }
        return done;
    }

    int feed(int sign) {
        if (!in(sign, 0, 127)) {
            return BAD;
        }
        if (text.length() == 100) {
            return FULL;
        }
        text.append((char) sign);
        return text.length();
    }

    static final String CLAUSE = "(b[0-9]{1,2},[0-9],-?[0-9]|e[0-9]|[lr][0-9n]|g[0-9]{1,2})";

    /** Whether some text that begins so has no fault: every beginning is filled up by hand-made endings. */
    static boolean canBegin(String s) {
        for (String ending : new String[] {"", "0", ",0,0", "0,0,0", "0,0", ",0", "e0", "n"}) {
            if ((s + ending).matches(CLAUSE + "(;" + CLAUSE + "){0,11}")) {
                return true;
            }
        }
        return false;
    }

    int read() {
        String s = text.toString();
        text.setLength(0);
        for (int i = 0; i < s.length(); i++) {
            if (!canBegin(s.substring(0, i + 1))) {
                return -10 - i;
            }
        }
        if (!s.matches(CLAUSE + "(;" + CLAUSE + "){0,11}")) {
            return -10 - s.length();
        }
        int done = 0;
        for (String clause : s.split(";")) {
            String[] words = clause.substring(1).split(",");
            int first = words[0].equals("n") ? -1 : Integer.parseInt(words[0]);
            int answer = switch (clause.charAt(0)) {
                case 'b' -> bumper(first, Integer.parseInt(words[1]), Integer.parseInt(words[2]));
                case 'e' -> spring(first);
                case 'l' -> wall(0, first);
                case 'r' -> wall(1, first);
                default -> go(first);
            };
            if (answer != BAD && answer != STATE && answer != FULL && answer != NONE) {
                done++;
            }
        }
        return done;
    }

    long of(int bumper, int what, int part) {
        if (!isBody(bumper) || !in(what, 0, 2) || !in(part, 0, 1)) {
            return NO;
        }
        Body b = scene.bodies.get(bumper);
        return (what == 0 ? b.place : what == 1 ? b.speed : Frac.of(b.mass)).part(part);
    }

    int told(int what) {
        return switch (what) {
            case 0 -> scene.bodies.size();
            case 1 -> scene.spring;
            case 2 -> scene.left == null ? -5 : scene.left;
            case 3 -> scene.right == null ? -5 : scene.right;
            case 4 -> all().strikes.size();
            case 5 -> all().end;
            default -> NONE;
        };
    }

    static long total(Scene s, int what, int part) {
        if (!in(what, 0, 1) || !in(part, 0, 1)) {
            return NO;
        }
        try {
            Frac sum = Frac.of(0);
            for (Body b : s.bodies) {
                Frac x = what == 0 ? b.speed : b.speed.times(b.speed);
                sum = sum.plus(x.times(Frac.of(b.mass)));
            }
            return sum.part(part);
        } catch (Over o) {
            return NO;
        }
    }

    long push(int what, int part) {
        return total(scene, what, part);
    }

    int where(int k) {
        if (k < 0) {
            return NONE;
        }
        List<Strike> strikes = all().strikes;
        return k < strikes.size() ? strikes.get(k).where : -5;
    }

    long time(int k, int part) {
        List<Strike> strikes = all().strikes;
        if (!in(k, 0, strikes.size() - 1) || !in(part, 0, 1)) {
            return NO;
        }
        return strikes.get(k).time.part(part);
    }

    long behind(int bumper, int k, int what, int part) {
        All a = all();
        if (!isBody(bumper) || !in(k, -1, a.strikes.size() - 1) || !in(what, 0, 1) || !in(part, 0, 1)) {
            return NO;
        }
        Scene s = k == -1 ? a.behind() : a.strikes.get(k).scene;
        Body b = s.bodies.get(bumper);
        return (what == 0 ? b.place : b.speed).part(part);
    }

    long then(int what, int part) {
        return total(all().behind(), what, part);
    }

    int often(int bumper) {
        if (!isBody(bumper)) {
            return NONE;
        }
        int n = 0;
        for (Strike s : all().strikes) {
            List<Integer> who = s.where == 0 ? List.of(0)
                : s.where == 9 ? List.of(scene.bodies.size() - 1) : List.of(s.where - 1, s.where);
            n += who.contains(bumper) ? 1 : 0;
        }
        return n;
    }

    long at(int bumper, int t, int part) {
        if (!isBody(bumper) || !in(t, 0, 99) || !in(part, 0, 1)) {
            return NO;
        }
        All a = all();
        try {
            Scene s = scene;
            Frac since = Frac.of(0);
            boolean above = false;
            for (Strike k : a.strikes) {
                if (Frac.of(t).less(k.time).sign() < 0) {
                    above = true;
                    break;
                }
                s = k.scene;
                since = k.time;
            }
            if (!above && a.end != 0) {
                return NO;
            }
            Body b = s.bodies.get(bumper);
            return b.place.plus(b.speed.times(Frac.of(t).less(since))).part(part);
        } catch (Over o) {
            return NO;
        }
    }

    private static int put(List<Row> list, int most, int k, int where) {
        if (k == -1) {
            list.clear();
            return 0;
        }
        if (!in(k, 0, 19) || !isWhere(where)) {
            return NONE;
        }
        if (list.size() == most) {
            return FULL;
        }
        list.add(new Row(k, where));
        return list.size();
    }

    int see(int k, int where) {
        return put(seen, 5, k, where);
    }

    int fits(int bumper, int what) {
        if (!isBody(bumper) || !in(what, 0, 1)) {
            return NONE;
        }
        List<Integer> speeds = new ArrayList<>();
        for (int v = -5; v <= 5; v++) {
            All a = all(scene.withBody(bumper, scene.bodies.get(bumper).withSpeed(Frac.of(v))));
            if (seen.stream().allMatch(r -> a.has(r.a, r.b))) {
                speeds.add(v);
            }
        }
        return what == 0 ? speeds.size() : speeds.isEmpty() ? -10 : speeds.get(0);
    }

    long odds(int n, int part) {
        if (!in(n, 0, 20) || !in(part, 0, 1)) {
            return NO;
        }
        int hits = 0;
        for (int q = 0; q < 5; q++) {
            hits += all(scene.withSpring(q)).strikes.size() >= n ? 1 : 0;
        }
        return Frac.of(hits, 5).part(part);
    }

    long mean(int part) {
        if (scene.bodies.isEmpty() || !in(part, 0, 1)) {
            return NO;
        }
        return Frac.of(scene.bodies.stream().mapToInt(Body::mass).sum(), scene.bodies.size()).part(part);
    }

    int event(int what, int n) {
        if (what == -1) {
            events.clear();
            return 0;
        }
        if (!in(what, 0, 3) || what == 0 && !isBody(n)) {
            return NONE;
        }
        if (what == 1 && n != 0 || what == 2 && !in(n, 0, 4) || what == 3 && !in(n, 0, 4) && n != 9) {
            return BAD;
        }
        if (events.size() == 8) {
            return FULL;
        }
        events.add(new Row(what, n));
        return events.size();
    }

    int after(int what) {
        if (!in(what, 0, 2)) {
            return NONE;
        }
        Scene s = scene;
        for (Row e : events) {
            switch (e.a) {
                case 0 -> s = s.withBody(e.b, s.bodies.get(e.b).withSpeed(Frac.of(0)));
                case 1 -> s = s.withBodies(s.bodies.stream().map(b -> b.withSpeed(Frac.of(0).less(b.speed))).toList());
                case 2 -> s = s.withSpring(e.b);
                default -> {
                    for (int side = 0; side < 2; side++) {
                        if (!s.beyond(side)) {
                            s = s.withWall(side, e.b == 9 ? null : Integer.valueOf(e.b));
                        }
                    }
                }
            }
        }
        All a = all(s);
        return what == 0 ? a.strikes.size() : what == 1 ? a.end : a.strikes.isEmpty() ? -5 : a.strikes.get(0).where;
    }

    int book(int k, int where) {
        return put(book, 8, k, where);
    }

    int looked() {
        All a = all();
        for (Row r : book) {
            if (!a.has(r.a, r.b)) {
                return book.indexOf(r);
            }
        }
        return -5;
    }

    int judge(int tape, int i) {
        if (!in(tape, 0, 5)) {
            return NONE;
        }
        if (sorts[tape] > 0) {
            return CAST;
        }
        List<Strike> strikes = all().strikes;
        if (strikes.isEmpty()) {
            return -5;
        }
        if (i < 0 || sorts[tape] < 0) {
            return 100;
        }
        for (int k = 0; k < strikes.size(); k++) {
            if ((long) i + k >= rows[tape].length) {
                return 100 + k;
            }
            if (rows[tape][i + k] != strikes.get(k).where) {
                return k;
            }
        }
        return -5;
    }

    int image() {
        image = new State(scene, List.copyOf(seen), List.copyOf(events), List.copyOf(book));
        return scene.bodies.size();
    }

    int undo() {
        if (image == null) {
            return STATE;
        }
        scene = image.scene;
        seen = new ArrayList<>(image.seen);
        events = new ArrayList<>(image.events);
        book = new ArrayList<>(image.book);
        return scene.bodies.size();
    }

    int count(int what) {
        return switch (what) {
            case 0 -> seen.size();
            case 1 -> events.size();
            case 2 -> book.size();
            case 3 -> text.length();
            default -> BAD;
        };
    }

    int tape(int tape, int sort, int n) {
        if (!in(tape, 0, 5)) {
            return NONE;
        }
        if (sort == -1) {
            sorts[tape] = -1;
            rows[tape] = null;
            return 1;
        }
        if (!in(sort, 0, 4) || n > 60) {
            return BAD;
        }
        if (n < 0) {
            return SIZE;
        }
        sorts[tape] = sort;
        rows[tape] = new long[n];
        return 1;
    }

    int item(int tape, int i, long v) {
        if (!in(tape, 0, 5)) {
            return NONE;
        }
        if (rows[tape] == null) {
            return NOTHING;
        }
        if (!in(i, 0, rows[tape].length - 1)) {
            return PLACE;
        }
        int bits = new int[] {8, 16, 32, 64, 0}[sorts[tape]];
        rows[tape][i] = bits == 0 ? Math.min(1, Math.abs(Long.signum(v))) : v << 64 - bits >> 64 - bits;
        return 1;
    }

    long peek(int tape, int i) {
        if (!in(tape, 0, 5) || rows[tape] == null || !in(i, 0, rows[tape].length - 1)) {
            return NO;
        }
        return rows[tape][i];
    }

    int shift(int tape, int i, int other, int j, int n) {
        if (!in(tape, 0, 5) || !in(other, 0, 5)) {
            return NONE;
        }
        if (rows[tape] == null || rows[other] == null) {
            return NOTHING;
        }
        if (sorts[tape] != sorts[other]) {
            return CAST;
        }
        if (n < 0 || i < 0 || j < 0 || (long) i + n > rows[tape].length || (long) j + n > rows[other].length) {
            return PLACE;
        }
        long[] before = Arrays.copyOf(rows[tape], rows[tape].length);
        for (int k = 0; k < n; k++) {
            rows[other][j + k] = before[i + k];
        }
        return n;
    }
}
