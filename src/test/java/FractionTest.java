import java.lang.reflect.Constructor;
import java.lang.reflect.Field;
import java.lang.reflect.Method;
import java.util.ArrayList;
import java.util.List;
import java.util.Random;

/**
 * The steps of fractions at the ends of the longs, which runs of calls hardly reach: compared with big numbers. The
 * class keeps its fractions to itself, so this test goes in by reflection.
 */
public final class FractionTest {
    private static final Check CHECK = new Check();
    private static final String[] STEPS = {"times", "by", "plus", "less"};

    private static Class<?> fraction;
    private static Field above, below, over;
    private static Object one, other;

    private static void open() throws Exception {
        for (Class<?> c : RailBumpers.class.getDeclaredClasses()) {
            if (c.getSimpleName().equals("Fraction")) {
                fraction = c;
            }
        }
        above = field("above");
        below = field("below");
        over = field("over");
        Constructor<?> maker = fraction.getDeclaredConstructor();
        maker.setAccessible(true);
        one = maker.newInstance();
        other = maker.newInstance();
    }

    private static Field field(String name) throws Exception {
        Field f = fraction.getDeclaredField(name);
        f.setAccessible(true);
        return f;
    }

    private static void set(Object f, Model.Frac value) throws Exception {
        above.setLong(f, value.part(0));
        below.setLong(f, value.part(1));
        over.setBoolean(f, false);
    }

    private static List<Model.Frac> values() {
        List<Long> numbers = new ArrayList<>(List.of(0L, 1L, 2L, 3L, 4L, 9L, 100L, 1L << 31, (1L << 32) + 1, 3037000499L,
            3037000500L, 1L << 61, 1L << 62, (1L << 62) + 1, Long.MAX_VALUE / 3 * 2 + 1, Long.MAX_VALUE / 3 * 2 + 2, Long.MAX_VALUE - 1,
            Long.MAX_VALUE));
        Random random = new Random(7);
        for (int i = 0; i < 8; i++) {
            numbers.add(random.nextLong() >>> random.nextInt(40) + 1);
        }
        List<Model.Frac> values = new ArrayList<>();
        for (long n : numbers) {
            for (long d : numbers) {
                if (d > 0) {
                    values.add(Model.Frac.of(n, d));
                    values.add(Model.Frac.of(-n, d));
                }
            }
        }
        for (long d : new long[] {1, 3, 5, Long.MAX_VALUE}) {
            values.add(Model.Frac.of(Long.MIN_VALUE, d));
        }
        return values;
    }

    private static Model.Frac step(int i, Model.Frac a, Model.Frac b) {
        return switch (i) {
            case 0 -> a.times(b);
            case 1 -> a.by(b);
            case 2 -> a.plus(b);
            default -> a.less(b);
        };
    }

    private static void compare(int i, Method step, Model.Frac a, Model.Frac b) throws Exception {
        Model.Frac want = null;
        try {
            want = step(i, a, b);
        } catch (Model.Over o) {
            // want stays null: the step passes a long
        }
        set(one, a);
        set(other, b);
        step.invoke(one, other);
        String call = a + " " + STEPS[i] + " " + b;
        CHECK.due(call + " over", want == null ? 1 : 0, over.getBoolean(one) ? 1 : 0);
        if (want != null) {
            CHECK.due(call + " above", want.part(0), above.getLong(one));
            CHECK.due(call + " below", want.part(1), below.getLong(one));
        }
        CHECK.due(call + " leaves the other", b.part(0), above.getLong(other));
    }

    private static void overStays(Method step) throws Exception {
        Model.Frac half = Model.Frac.of(1, 2);
        for (Object f : new Object[] {one, other}) {
            set(one, half);
            set(other, half);
            over.setBoolean(f, true);
            step.invoke(one, other);
            CHECK.due(step.getName() + " with an over is over", over.getBoolean(one));
        }
    }

    public static void main(String[] args) throws Exception {
        open();
        List<Model.Frac> values = values();
        for (int i = 0; i < STEPS.length; i++) {
            Method step = fraction.getDeclaredMethod(STEPS[i], fraction);
            step.setAccessible(true);
            overStays(step);
            for (Model.Frac a : values) {
                for (Model.Frac b : values) {
                    if (i != 1 || b.sign() != 0) {
                        compare(i, step, a, b);
                    }
                }
            }
        }
        CHECK.end();
    }
}
