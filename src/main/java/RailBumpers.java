import java.util.Arrays;

/**
 * Bumpers on a rail: masses that strike one another and the walls, more or less springy, worked in exact fractions
 * of longs. All fractions and rows are made in the constructor and used again, so that no call makes an object.
 */
public final class RailBumpers {
    public static final int NONE = -1, BAD = -2, STATE = -3, FULL = -4;
    public static final long NO = Long.MIN_VALUE;

    private static final int NOTHING = -11, CAST = -12, PLACE = -13, SIZE = -14;

    /** Told where a number could be told, but there is none. */
    private static final int ABSENT = -5;

    private static final int MOST_BUMPERS = 6, MOST_STRIKES = 20, MOST_MASS = 9, MOST_SPEED = 9, MOST_QUARTERS = 4;
    private static final int MOST_PLACE = 99, MOST_TIME = 99, RAIL_END = 100;
    private static final int MOST_SEEN = 5, MOST_EVENTS = 8, MOST_BOOK = 8;
    private static final int MOST_SIGNS = 100, MOST_CLAUSES = 12, FAULT_BASE = -10;
    private static final int FIT_SPEED = 5, NO_FIT = -10;
    private static final int TAPES = 6, MOST_ITEMS = 60, NO_ROW = -1, BYTES = 0, BOOLEANS = 4, ENDED = 100;

    private static final int LEFT = 0, RIGHT = 1, NO_WALL = -1;
    private static final int AT_LEFT_WALL = 0, AT_RIGHT_WALL = 9, NO_STRIKE = -5, OVER = -6;
    private static final int END_NONE = 0, END_MANY = 1, END_OVER = 2;
    private static final int STOP = 0, TURN = 1, RESPRING = 2, REWALL = 3, WALLS_GONE = 9;

    private final Setting now;
    private final Setting kept;
    private boolean hasImage;
    private final Course course;
    private final Rail supposed;
    private final Text text;
    private final Tape[] tapes;

    /** Scratch for what is worked beside the strikes. */
    private final Fraction sum, term, whole;

    public RailBumpers() {
        now = new Setting();
        kept = new Setting();
        hasImage = false;
        course = new Course();
        supposed = new Rail();
        text = new Text();
        tapes = new Tape[TAPES];
        for (int i = 0; i < TAPES; i++) {
            tapes[i] = new Tape();
        }
        sum = new Fraction();
        term = new Fraction();
        whole = new Fraction();
    }

    // ---- bumpers, springs

    public int bumper(int place, int mass, int speed) {
        Rail rail = now.rail;
        if (place < 0 || place > MOST_PLACE || !isMass(mass) || !isSpeed(speed)) {
            return BAD;
        }
        if (rail.bumpers > 0) {
            sum.become(rail.places[rail.bumpers - 1]);
            whole.becomeWhole(place);
            sum.less(whole);
            if (sum.over || sum.above >= 0) {
                return STATE;
            }
        }
        if (rail.bumpers >= MOST_BUMPERS) {
            return FULL;
        }
        int number = rail.bumpers;
        rail.places[number].becomeWhole(place);
        rail.masses[number] = mass;
        rail.speeds[number].becomeWhole(speed);
        rail.bumpers = number + 1;
        return number;
    }

    public int renew(int bumper, int what, int v) {
        Rail rail = now.rail;
        if (!isBumper(bumper) || what < 0 || what > 1) {
            return NONE;
        }
        if (what == 0 ? !isMass(v) : !isSpeed(v)) {
            return BAD;
        }
        if (what == 0) {
            rail.masses[bumper] = v;
        } else {
            rail.speeds[bumper].becomeWhole(v);
        }
        return rail.bumpers;
    }

    public int spring(int q) {
        if (!isQuarters(q)) {
            return BAD;
        }
        int was = now.rail.springiness;
        now.rail.springiness = q;
        return was;
    }

    public int wall(int side, int q) {
        if (side != LEFT && side != RIGHT) {
            return NONE;
        }
        if (q != NO_WALL && !isQuarters(q)) {
            return BAD;
        }
        if (q != NO_WALL && isAnyBeyond(now.rail, side)) {
            return STATE;
        }
        int was = toldWall(side);
        now.rail.walls[side] = q;
        return was;
    }

    public int go(int k) {
        if (k < 0 || k > MOST_STRIKES) {
            return BAD;
        }
        course.work(now.rail, MOST_STRIKES);
        int done = Math.min(k, course.strikes);
        now.rail.become(course.stops[done]);
        return done;
    }

    public int feed(int sign) {
        if (sign < 0 || sign > 127) {
            return BAD;
        }
        if (text.length >= MOST_SIGNS) {
            return FULL;
        }
        text.signs[text.length] = (byte) sign;
        text.length++;
        return text.length;
    }

    public int read() {
        boolean faultless = text.scan();
        text.length = 0;
        if (!faultless) {
            return FAULT_BASE - text.at;
        }
        int done = 0;
        for (int i = 0; i < text.clauses; i++) {
            int answer = perform(text.kinds[i], text.firsts[i], text.seconds[i], text.thirds[i]);
            if (!isRefusal(answer)) {
                done++;
            }
        }
        return done;
    }

    // ---- what is told

    public long of(int bumper, int what, int part) {
        if (!isBumper(bumper) || what < 0 || what > 2 || !isPart(part)) {
            return NO;
        }
        if (what == 2) {
            return part == 0 ? now.rail.masses[bumper] : 1;
        }
        return now.rail.fraction(bumper, what).half(part);
    }

    public int told(int what) {
        switch (what) {
            case 0:
                return now.rail.bumpers;
            case 1:
                return now.rail.springiness;
            case 2:
                return toldWall(LEFT);
            case 3:
                return toldWall(RIGHT);
            case 4:
                course.work(now.rail, MOST_STRIKES);
                return course.strikes;
            case 5:
                course.work(now.rail, MOST_STRIKES);
                return course.end;
            default:
                return NONE;
        }
    }

    public long push(int what, int part) {
        if (what < 0 || what > 1 || !isPart(part)) {
            return NO;
        }
        addUp(now.rail, what);
        return sum.half(part);
    }

    // ---- strikes

    public int where(int k) {
        if (k < 0) {
            return NONE;
        }
        course.work(now.rail, MOST_STRIKES);
        return k < course.strikes ? course.wheres[k] : ABSENT;
    }

    public long time(int k, int part) {
        course.work(now.rail, MOST_STRIKES);
        if (k < 0 || k >= course.strikes || !isPart(part)) {
            return NO;
        }
        return course.times[k + 1].half(part);
    }

    public long behind(int bumper, int k, int what, int part) {
        course.work(now.rail, MOST_STRIKES);
        if (!isBumper(bumper) || k < -1 || k >= course.strikes || what < 0 || what > 1 || !isPart(part)) {
            return NO;
        }
        int stop = k == -1 ? course.strikes : k + 1;
        return course.stops[stop].fraction(bumper, what).half(part);
    }

    public long then(int what, int part) {
        if (what < 0 || what > 1 || !isPart(part)) {
            return NO;
        }
        course.work(now.rail, MOST_STRIKES);
        addUp(course.stops[course.strikes], what);
        return sum.half(part);
    }

    public int often(int bumper) {
        if (!isBumper(bumper)) {
            return NONE;
        }
        course.work(now.rail, MOST_STRIKES);
        int times = 0;
        for (int k = 0; k < course.strikes; k++) {
            if (takesPart(bumper, course.wheres[k])) {
                times++;
            }
        }
        return times;
    }

    public long at(int bumper, int t, int part) {
        if (!isBumper(bumper) || t < 0 || t > MOST_TIME || !isPart(part)) {
            return NO;
        }
        int stop = lastStopBy(t);
        if (stop < 0) {
            return NO;
        }
        whole.becomeWhole(t);
        whole.less(course.times[stop]);
        term.become(course.stops[stop].speeds[bumper]);
        term.times(whole);
        sum.become(course.stops[stop].places[bumper]);
        sum.plus(term);
        return sum.half(part);
    }

    // ---- seen, odds

    public int see(int k, int where) {
        return addStrike(now.seen, k, where);
    }

    public int fits(int bumper, int what) {
        if (!isBumper(bumper) || what < 0 || what > 1) {
            return NONE;
        }
        int most = 0;
        for (int i = 0; i < now.seen.size; i++) {
            most = Math.max(most, now.seen.firsts[i] + 1);
        }
        int fitting = 0;
        int least = NO_FIT;
        for (int speed = FIT_SPEED; speed >= -FIT_SPEED; speed--) {
            supposed.become(now.rail);
            supposed.speeds[bumper].becomeWhole(speed);
            course.work(supposed, most);
            if (course.firstUnlike(now.seen) == ABSENT) {
                fitting++;
                least = speed;
            }
        }
        return what == 0 ? fitting : least;
    }

    public long odds(int n, int part) {
        if (n < 0 || n > MOST_STRIKES || !isPart(part)) {
            return NO;
        }
        int hits = 0;
        for (int q = 0; q <= MOST_QUARTERS; q++) {
            supposed.become(now.rail);
            supposed.springiness = q;
            course.work(supposed, n);
            if (course.strikes >= n) {
                hits++;
            }
        }
        sum.becomeRatio(hits, MOST_QUARTERS + 1);
        return sum.half(part);
    }

    public long mean(int part) {
        Rail rail = now.rail;
        if (rail.bumpers == 0 || !isPart(part)) {
            return NO;
        }
        int together = 0;
        for (int i = 0; i < rail.bumpers; i++) {
            together += rail.masses[i];
        }
        sum.becomeRatio(together, rail.bumpers);
        return sum.half(part);
    }

    // ---- events, books

    public int event(int what, int n) {
        if (what == -1) {
            now.events.size = 0;
            return 0;
        }
        if (what < STOP || what > REWALL || what == STOP && !isBumper(n)) {
            return NONE;
        }
        boolean isBad = what == TURN && n != 0
            || what == RESPRING && !isQuarters(n)
            || what == REWALL && !isQuarters(n) && n != WALLS_GONE;
        return isBad ? BAD : now.events.add(what, n);
    }

    public int after(int what) {
        if (what < 0 || what > 2) {
            return NONE;
        }
        supposed.become(now.rail);
        for (int i = 0; i < now.events.size; i++) {
            happen(supposed, now.events.firsts[i], now.events.seconds[i]);
        }
        course.work(supposed, MOST_STRIKES);
        if (what == 0) {
            return course.strikes;
        }
        if (what == 1) {
            return course.end;
        }
        return course.strikes > 0 ? course.wheres[0] : ABSENT;
    }

    public int book(int k, int where) {
        return addStrike(now.strikeBook, k, where);
    }

    public int looked() {
        course.work(now.rail, MOST_STRIKES);
        return course.firstUnlike(now.strikeBook);
    }

    // ---- judging, the image, tapes

    public int judge(int tape, int i) {
        if (!isTape(tape)) {
            return NONE;
        }
        Tape row = tapes[tape];
        if (row.sort != NO_ROW && row.sort != BYTES) {
            return CAST;
        }
        course.work(now.rail, MOST_STRIKES);
        if (course.strikes == 0) {
            return ABSENT;
        }
        if (i < 0) {
            return ENDED;
        }
        for (int k = 0; k < course.strikes; k++) {
            if (i >= row.size - k) {
                return ENDED + k;
            }
            if (row.items[i + k] != course.wheres[k]) {
                return k;
            }
        }
        return ABSENT;
    }

    public int image() {
        kept.become(now);
        hasImage = true;
        return now.rail.bumpers;
    }

    public int undo() {
        if (!hasImage) {
            return STATE;
        }
        now.become(kept);
        return now.rail.bumpers;
    }

    public int count(int what) {
        switch (what) {
            case 0:
                return now.seen.size;
            case 1:
                return now.events.size;
            case 2:
                return now.strikeBook.size;
            case 3:
                return text.length;
            default:
                return BAD;
        }
    }

    public int tape(int tape, int sort, int n) {
        if (!isTape(tape)) {
            return NONE;
        }
        if (sort < NO_ROW || sort > BOOLEANS) {
            return BAD;
        }
        if (sort != NO_ROW && n > MOST_ITEMS) {
            return BAD;
        }
        if (sort != NO_ROW && n < 0) {
            return SIZE;
        }
        tapes[tape].renewAs(sort, sort == NO_ROW ? 0 : n);
        return 1;
    }

    public int item(int tape, int i, long v) {
        if (!isTape(tape)) {
            return NONE;
        }
        Tape row = tapes[tape];
        if (row.sort == NO_ROW) {
            return NOTHING;
        }
        if (i < 0 || i >= row.size) {
            return PLACE;
        }
        row.items[i] = row.cut(v);
        return 1;
    }

    public long peek(int tape, int i) {
        if (!isTape(tape) || i < 0 || i >= tapes[tape].size) {
            return NO;
        }
        return tapes[tape].items[i];
    }

    public int shift(int tape, int i, int other, int j, int n) {
        if (!isTape(tape) || !isTape(other)) {
            return NONE;
        }
        Tape from = tapes[tape];
        Tape to = tapes[other];
        if (from.sort == NO_ROW || to.sort == NO_ROW) {
            return NOTHING;
        }
        if (from.sort != to.sort) {
            return CAST;
        }
        if (n < 0 || i < 0 || j < 0 || i > from.size - n || j > to.size - n) {
            return PLACE;
        }
        System.arraycopy(from.items, i, to.items, j, n);
        return n;
    }

    // ---- what the calls share

    private boolean isBumper(int bumper) {
        return bumper >= 0 && bumper < now.rail.bumpers;
    }

    private static boolean isMass(int mass) {
        return mass >= 1 && mass <= MOST_MASS;
    }

    private static boolean isSpeed(int speed) {
        return speed >= -MOST_SPEED && speed <= MOST_SPEED;
    }

    private static boolean isQuarters(int q) {
        return q >= 0 && q <= MOST_QUARTERS;
    }

    private static boolean isPart(int part) {
        return part == 0 || part == 1;
    }

    private static boolean isTape(int tape) {
        return tape >= 0 && tape < TAPES;
    }

    private static boolean isWhere(int where) {
        return where >= AT_LEFT_WALL && where < MOST_BUMPERS || where == AT_RIGHT_WALL;
    }

    /** A wall that was none answers -5, which is no refusal: so the refusals are told apart by their own numbers. */
    private static boolean isRefusal(int answer) {
        return answer <= NONE && answer >= FULL;
    }

    private int toldWall(int side) {
        int q = now.rail.walls[side];
        return q == NO_WALL ? ABSENT : q;
    }

    private boolean isAnyBeyond(Rail rail, int side) {
        for (int i = 0; i < rail.bumpers; i++) {
            if (isBeyond(rail.places[i], side)) {
                return true;
            }
        }
        return false;
    }

    private boolean isBeyond(Fraction place, int side) {
        if (side == LEFT) {
            return place.above < 0;
        }
        sum.become(place);
        whole.becomeWhole(RAIL_END);
        sum.less(whole);
        return sum.over || sum.above > 0;
    }

    private int perform(int kind, int first, int second, int third) {
        switch (kind) {
            case 'b':
                return bumper(first, second, third);
            case 'e':
                return spring(first);
            case 'l':
                return wall(LEFT, first);
            case 'r':
                return wall(RIGHT, first);
            default:
                return go(first);
        }
    }

    /** PUSH (what 0) or ENERGY (1) of a rail, into the scratch sum. */
    private void addUp(Rail rail, int what) {
        sum.becomeWhole(0);
        for (int i = 0; i < rail.bumpers; i++) {
            term.become(rail.speeds[i]);
            if (what == 1) {
                term.times(rail.speeds[i]);
            }
            whole.becomeWhole(rail.masses[i]);
            term.times(whole);
            sum.plus(term);
        }
    }

    private boolean takesPart(int bumper, int where) {
        if (where == AT_LEFT_WALL) {
            return bumper == 0;
        }
        if (where == AT_RIGHT_WALL) {
            return bumper == now.rail.bumpers - 1;
        }
        return bumper == where - 1 || bumper == where;
    }

    /** The stop of ALL from which the rail runs freely up to time t; -1: that can't be told. */
    private int lastStopBy(int t) {
        course.work(now.rail, MOST_STRIKES);
        for (int k = 0; k < course.strikes; k++) {
            sum.becomeWhole(t);
            sum.less(course.times[k + 1]);
            if (sum.over) {
                return -1;
            }
            if (sum.above < 0) {
                return k;
            }
        }
        return course.end == END_NONE ? course.strikes : -1;
    }

    private static int addStrike(Pairs rows, int k, int where) {
        if (k == -1) {
            rows.size = 0;
            return 0;
        }
        if (k < 0 || k >= MOST_STRIKES || !isWhere(where)) {
            return NONE;
        }
        return rows.add(k, where);
    }

    private void happen(Rail rail, int what, int n) {
        switch (what) {
            case STOP:
                if (n >= 0 && n < rail.bumpers) {
                    rail.speeds[n].becomeWhole(0);
                }
                break;
            case TURN:
                turnAll(rail);
                break;
            case RESPRING:
                rail.springiness = n;
                break;
            default:
                for (int side = LEFT; side <= RIGHT; side++) {
                    if (!isAnyBeyond(rail, side)) {
                        rail.walls[side] = n == WALLS_GONE ? NO_WALL : n;
                    }
                }
                break;
        }
    }

    private void turnAll(Rail rail) {
        for (int i = 0; i < rail.bumpers; i++) {
            sum.becomeWhole(0);
            sum.less(rail.speeds[i]);
            if (!sum.over) {
                rail.speeds[i].become(sum);
            }
        }
    }

    /** A fraction in lowest terms, above 0 below the line. Once a step to it has passed a long it is over, and stays so. */
    private static final class Fraction {
        long above;
        long below;
        boolean over;

        Fraction() {
            above = 0;
            below = 1;
            over = false;
        }

        void become(Fraction other) {
            above = other.above;
            below = other.below;
            over = other.over;
        }

        void becomeWhole(long number) {
            above = number;
            below = 1;
            over = false;
        }

        void becomeRatio(long high, long low) {
            over = false;
            settle(high, low);
        }

        void times(Fraction other) {
            over = over || other.over || passes(above, other.above) || passes(below, other.below);
            settle(above * other.above, below * other.below);
        }

        void by(Fraction other) {
            over = over || other.over || passes(above, other.below) || passes(below, other.above);
            settle(above * other.below, below * other.above);
        }

        void plus(Fraction other) {
            long mine = above * other.below;
            long others = other.above * below;
            long total = mine + others;
            over = over || other.over || passes(above, other.below) || passes(other.above, below)
                || passes(below, other.below) || ((mine ^ total) & (others ^ total)) < 0;
            settle(total, below * other.below);
        }

        void less(Fraction other) {
            long mine = above * other.below;
            long others = other.above * below;
            long rest = mine - others;
            over = over || other.over || passes(above, other.below) || passes(other.above, below)
                || passes(below, other.below) || ((mine ^ others) & (mine ^ rest)) < 0;
            settle(rest, below * other.below);
        }

        /** What is above (part 0) or below (1) the line. */
        long half(int part) {
            if (over) {
                return NO;
            }
            return part == 0 ? above : below;
        }

        boolean isLike(Fraction other) {
            return above == other.above && below == other.below;
        }

        /** Whether a product passes a long; -1 stands apart, as the least long divided by it wraps around. */
        private static boolean passes(long a, long b) {
            if (b == 0) {
                return false;
            }
            if (b == -1) {
                return a == Long.MIN_VALUE;
            }
            return a * b / b != a;
        }

        private void settle(long high, long low) {
            if (over || low == 0) {
                over = true;
                return;
            }
            long divisor = low;
            long rest = high % low;
            // Euclid needs fewer than 100 steps for longs
            for (int i = 0; i < 200 && rest != 0; i++) {
                long next = divisor % rest;
                divisor = rest;
                rest = next;
            }
            // with the sign of what is below the line it turns both, if that is below 0
            if ((divisor < 0) != (low < 0)) {
                divisor = -divisor;
            }
            over = divisor == -1 && (high == Long.MIN_VALUE || low == Long.MIN_VALUE);
            above = high / divisor;
            below = low / divisor;
        }
    }

    /** The bumpers from left to right, the spring between them and the walls. */
    private static final class Rail {
        int bumpers;
        final int[] masses;
        final Fraction[] places;
        final Fraction[] speeds;
        int springiness;
        final int[] walls;

        Rail() {
            bumpers = 0;
            masses = new int[MOST_BUMPERS];
            places = new Fraction[MOST_BUMPERS];
            speeds = new Fraction[MOST_BUMPERS];
            for (int i = 0; i < MOST_BUMPERS; i++) {
                places[i] = new Fraction();
                speeds[i] = new Fraction();
            }
            springiness = MOST_QUARTERS;
            walls = new int[RIGHT + 1];
            walls[LEFT] = MOST_QUARTERS;
            walls[RIGHT] = MOST_QUARTERS;
        }

        void become(Rail other) {
            bumpers = other.bumpers;
            for (int i = 0; i < other.bumpers; i++) {
                masses[i] = other.masses[i];
                places[i].become(other.places[i]);
                speeds[i].become(other.speeds[i]);
            }
            springiness = other.springiness;
            walls[LEFT] = other.walls[LEFT];
            walls[RIGHT] = other.walls[RIGHT];
        }

        boolean isLike(Rail other) {
            if (bumpers != other.bumpers || springiness != other.springiness
                || walls[LEFT] != other.walls[LEFT] || walls[RIGHT] != other.walls[RIGHT]) {
                return false;
            }
            for (int i = 0; i < bumpers; i++) {
                if (masses[i] != other.masses[i] || !places[i].isLike(other.places[i])
                    || !speeds[i].isLike(other.speeds[i])) {
                    return false;
                }
            }
            return true;
        }

        /** Place (what 0) or speed (1) of a bumper. */
        Fraction fraction(int bumper, int what) {
            return what == 0 ? places[bumper] : speeds[bumper];
        }
    }

    /** Finds the next strike of a rail, and does it. */
    private static final class Striker {
        private final Fraction least, delay, closing, ahead, way, springy;
        private final Fraction common, kick, share, leftMass, rightMass, bothMass;

        Striker() {
            least = new Fraction();
            delay = new Fraction();
            closing = new Fraction();
            ahead = new Fraction();
            way = new Fraction();
            springy = new Fraction();
            common = new Fraction();
            kick = new Fraction();
            share = new Fraction();
            leftMass = new Fraction();
            rightMass = new Fraction();
            bothMass = new Fraction();
        }

        /** Where the next strike is; NO_STRIKE, OVER. How long it is until then is kept for doing it. */
        int find(Rail rail) {
            int found = NO_STRIKE;
            if (rail.bumpers == 0) {
                return found;
            }
            for (int i = 0; i <= rail.bumpers; i++) {
                if (!reckon(rail, i)) {
                    continue;
                }
                ahead.become(delay);
                if (found != NO_STRIKE) {
                    ahead.less(least);
                }
                if (ahead.over) {
                    return OVER;
                }
                if (found == NO_STRIKE || ahead.above < 0) {
                    least.become(delay);
                    found = i == rail.bumpers ? AT_RIGHT_WALL : i;
                }
            }
            return found;
        }

        /** Works the delay of the strike at the i-th gap (0 left of all bumpers), if there can be one. */
        private boolean reckon(Rail rail, int i) {
            if (i == 0) {
                if (rail.walls[LEFT] == NO_WALL || rail.speeds[0].above >= 0) {
                    return false;
                }
                closing.becomeWhole(0);
                closing.less(rail.speeds[0]);
                delay.become(rail.places[0]);
            } else if (i == rail.bumpers) {
                if (rail.walls[RIGHT] == NO_WALL || rail.speeds[i - 1].above <= 0) {
                    return false;
                }
                closing.become(rail.speeds[i - 1]);
                delay.becomeWhole(RAIL_END);
                delay.less(rail.places[i - 1]);
            } else {
                closing.become(rail.speeds[i - 1]);
                closing.less(rail.speeds[i]);
                if (!closing.over && closing.above <= 0) {
                    return false;
                }
                delay.become(rail.places[i]);
                delay.less(rail.places[i - 1]);
            }
            delay.by(closing);
            return true;
        }

        /** Does the strike found last; false: there is an OVER in it, and the rail and the time are of no use. */
        boolean strike(Rail rail, Fraction clock, int found) {
            clock.plus(least);
            boolean over = clock.over;
            for (int i = 0; i < rail.bumpers; i++) {
                way.become(rail.speeds[i]);
                way.times(least);
                rail.places[i].plus(way);
                over = over || rail.places[i].over;
            }
            if (over) {
                return false;
            }
            if (found == AT_LEFT_WALL) {
                return rebound(rail.speeds[0], rail.walls[LEFT]);
            }
            if (found == AT_RIGHT_WALL) {
                return rebound(rail.speeds[rail.bumpers - 1], rail.walls[RIGHT]);
            }
            return collide(rail, found - 1, found);
        }

        private boolean rebound(Fraction speed, int quarters) {
            springy.becomeRatio(quarters, MOST_QUARTERS);
            way.become(speed);
            way.times(springy);
            speed.becomeWhole(0);
            speed.less(way);
            return !speed.over;
        }

        private boolean collide(Rail rail, int left, int right) {
            Fraction leftSpeed = rail.speeds[left];
            Fraction rightSpeed = rail.speeds[right];
            leftMass.becomeWhole(rail.masses[left]);
            rightMass.becomeWhole(rail.masses[right]);
            bothMass.becomeWhole(rail.masses[left] + rail.masses[right]);
            springy.becomeRatio(rail.springiness, MOST_QUARTERS);

            common.become(leftSpeed);
            common.times(leftMass);
            share.become(rightSpeed);
            share.times(rightMass);
            common.plus(share);
            common.by(bothMass);

            kick.become(leftSpeed);
            kick.less(rightSpeed);
            kick.times(springy);

            share.become(kick);
            share.times(rightMass);
            share.by(bothMass);
            leftSpeed.become(common);
            leftSpeed.less(share);

            share.become(kick);
            share.times(leftMass);
            share.by(bothMass);
            rightSpeed.become(common);
            rightSpeed.plus(share);
            return !leftSpeed.over && !rightSpeed.over;
        }
    }

    /** ALL: the strikes from a rail on. Stop 0 is that rail itself at time 0, stop k + 1 the rail behind strike k. */
    private static final class Course {
        final Rail[] stops;
        final Fraction[] times;
        final int[] wheres;
        int strikes;
        int end;
        private int bound;
        private final Striker striker;

        Course() {
            stops = new Rail[MOST_STRIKES + 1];
            times = new Fraction[MOST_STRIKES + 1];
            for (int i = 0; i <= MOST_STRIKES; i++) {
                stops[i] = new Rail();
                times[i] = new Fraction();
            }
            wheres = new int[MOST_STRIKES];
            strikes = 0;
            end = END_NONE;
            bound = -1;
            striker = new Striker();
        }

        /**
         * Works the first strikes from a rail, most (0 .. 20) of them. What was worked last is kept, as most calls ask
         * about the same rail again.
         */
        void work(Rail start, int most) {
            if (bound == most && stops[0].isLike(start)) {
                return;
            }
            bound = most;
            stops[0].become(start);
            times[0].becomeWhole(0);
            strikes = 0;
            end = END_MANY;
            for (int k = 0; k < most && k < MOST_STRIKES; k++) {
                Rail rail = stops[k + 1];
                rail.become(stops[k]);
                times[k + 1].become(times[k]);
                int found = striker.find(rail);
                if (found == NO_STRIKE) {
                    end = END_NONE;
                    return;
                }
                if (found == OVER || !striker.strike(rail, times[k + 1], found)) {
                    end = END_OVER;
                    return;
                }
                wheres[k] = found;
                strikes = k + 1;
            }
        }

        /** The number of the first row, a strike and where it is, that is not so here; ABSENT: all are. */
        int firstUnlike(Pairs rows) {
            for (int i = 0; i < rows.size; i++) {
                int k = rows.firsts[i];
                if (k < 0 || k >= strikes || wheres[k] != rows.seconds[i]) {
                    return i;
                }
            }
            return ABSENT;
        }
    }

    /** Rows of two numbers told by hand. */
    private static final class Pairs {
        final int[] firsts;
        final int[] seconds;
        int size;

        /** Room for so many rows, 1 or more. */
        Pairs(int most) {
            firsts = new int[Math.max(most, 1)];
            seconds = new int[Math.max(most, 1)];
            size = 0;
        }

        int add(int first, int second) {
            if (size >= firsts.length) {
                return FULL;
            }
            firsts[size] = first;
            seconds[size] = second;
            size++;
            return size;
        }

        /** Takes over the rows of another of the same room. */
        void become(Pairs other) {
            size = Math.min(other.size, firsts.length);
            System.arraycopy(other.firsts, 0, firsts, 0, size);
            System.arraycopy(other.seconds, 0, seconds, 0, size);
        }
    }

    /** All that the image holds. */
    private static final class Setting {
        final Rail rail;
        final Pairs seen;
        final Pairs events;
        final Pairs strikeBook;

        Setting() {
            rail = new Rail();
            seen = new Pairs(MOST_SEEN);
            events = new Pairs(MOST_EVENTS);
            strikeBook = new Pairs(MOST_BOOK);
        }

        void become(Setting other) {
            rail.become(other.rail);
            seen.become(other.seen);
            events.become(other.events);
            strikeBook.become(other.strikeBook);
        }
    }

    /** The text of a set-up, and the clauses that it was found to have. */
    private static final class Text {
        private static final int END_OF_TEXT = -1;

        final byte[] signs;
        int length;
        final int[] kinds;
        final int[] firsts;
        final int[] seconds;
        final int[] thirds;
        int clauses;

        /** Where scanning stands; if it failed, where the fault is. */
        int at;
        private int number;

        Text() {
            signs = new byte[MOST_SIGNS];
            length = 0;
            kinds = new int[MOST_CLAUSES];
            firsts = new int[MOST_CLAUSES];
            seconds = new int[MOST_CLAUSES];
            thirds = new int[MOST_CLAUSES];
            clauses = 0;
            at = 0;
            number = 0;
        }

        /** Finds the clauses; false: there is a fault. */
        boolean scan() {
            at = 0;
            clauses = 0;
            for (int i = 0; i < MOST_CLAUSES; i++) {
                if (!scanClause(i)) {
                    return false;
                }
                clauses = i + 1;
                if (sign() == END_OF_TEXT) {
                    return true;
                }
                if (clauses == MOST_CLAUSES || !skip(';')) {
                    return false;
                }
            }
            return false;
        }

        private boolean scanClause(int i) {
            kinds[i] = sign();
            if (skip('b')) {
                return scanBumper(i);
            }
            boolean scanned;
            if (skip('g')) {
                scanned = scanNumber(2);
            } else if (skip('e')) {
                scanned = scanNumber(1);
            } else {
                scanned = (skip('l') || skip('r')) && scanWall();
            }
            firsts[i] = number;
            return scanned;
        }

        private boolean scanBumper(int i) {
            if (!scanNumber(2) || !skip(',')) {
                return false;
            }
            firsts[i] = number;
            if (!scanNumber(1) || !skip(',')) {
                return false;
            }
            seconds[i] = number;
            boolean isLeftward = skip('-');
            if (!scanNumber(1)) {
                return false;
            }
            thirds[i] = isLeftward ? -number : number;
            return true;
        }

        private boolean scanWall() {
            if (skip('n')) {
                number = NO_WALL;
                return true;
            }
            return scanNumber(1);
        }

        /** A number of 1 digit or more, up to so many. */
        private boolean scanNumber(int mostDigits) {
            number = 0;
            int digits = 0;
            while (digits < mostDigits && sign() >= '0' && sign() <= '9') {
                number = number * 10 + sign() - '0';
                digits++;
                at++;
            }
            return digits > 0;
        }

        private boolean skip(char due) {
            if (sign() != due) {
                return false;
            }
            at++;
            return true;
        }

        private int sign() {
            return at >= 0 && at < length && at < MOST_SIGNS ? signs[at] : END_OF_TEXT;
        }
    }

    /** A row of one sort, or nothing; each item is held as a long of the same value. */
    private static final class Tape {
        int sort;
        int size;
        final long[] items;

        Tape() {
            sort = NO_ROW;
            size = 0;
            items = new long[MOST_ITEMS];
        }

        void renewAs(int newSort, int newSize) {
            sort = newSort;
            size = newSize;
            Arrays.fill(items, 0L);
        }

        /** What an item of this sort keeps of a number. */
        long cut(long v) {
            switch (sort) {
                case BYTES:
                    return (byte) v;
                case 1:
                    return (short) v;
                case 2:
                    return (int) v;
                case BOOLEANS:
                    return v != 0 ? 1 : 0;
                default:
                    return v;
            }
        }
    }
}
