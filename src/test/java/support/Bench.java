import java.io.IOException;
import java.lang.reflect.InvocationTargetException;
import java.lang.reflect.Method;
import java.nio.file.Files;
import java.nio.file.Path;
import java.util.ArrayList;
import java.util.Arrays;
import java.util.HashMap;
import java.util.List;
import java.util.Map;

/**
 * What a test of the document's sentences, one by one, is built on. Every look is at a new object that a set-up made, and
 * no object gets more than the 512 calls for which the document speaks.
 *
 * <p>A set-up is a row of calls in short, with ; between: b place,mass,speed; e q; l q, r q (n: none); g k; v bumper,speed;
 * m bumper,mass; s k,where (see); n what,n (event); k k,where (book); i (image); u (undo); f text (fed; | for ;);
 * p (read); t tape,sort,n; x tape,i,v (item).
 */
abstract class Bench {
    static final int NONE = -1, BAD = -2, STATE = -3, FULL = -4, ABSENT = -5;
    static final int NOTHING = -11, CAST = -12, PLACE = -13, SIZE = -14;
    static final long NO = Long.MIN_VALUE;
    static final int LEAST = Integer.MIN_VALUE, MOST = Integer.MAX_VALUE;

    /** Something of everything: fractions, rows, an image that is otherwise, half a text, a tape of each sort. */
    static final String RICH = "b3,1,2;s2,0;n2,1;k1,1;i;s0,1;n1,0;n0,0;k0,1;b10,1,3;b20,2,-1;e3;l2;r3;g3;b99,4,-2;fl1|e;"
        + "t0,0,3;x0,0,1;x0,1,2;t1,1,2;x1,1,-5;t2,2,2;x2,0,70000;t3,3,2;x3,1,-7;t4,4,2;x4,0,1";

    private static final Path DOCUMENT = Path.of("../shared/DOC.md");
    private static final int MOST_CALLS = 512;
    private static final List<List<String>> LOOKS = looks();
    private static final Map<String, Method> METHODS = new HashMap<>();

    /** Null: it isn't there. */
    final String document;

    private final Check check = new Check();

    Bench() {
        for (Method m : RailBumpers.class.getMethods()) {
            METHODS.put(m.getName(), m);
        }
        document = readDocument();
    }

    /** Null: it isn't there, and no words can be looked for in it. */
    private static String readDocument() {
        try {
            return Files.readString(DOCUMENT);
        } catch (IOException e) {
            System.out.println("no " + DOCUMENT + ": the sentences' words are not looked for");
            return null;
        }
    }

    /** A new object, and how many calls it has had. */
    private static final class Subject {
        final RailBumpers rail = new RailBumpers();
        int calls = 0;

        long call(String name, long... args) {
            calls++;
            if (calls > MOST_CALLS) {
                throw new IllegalStateException("this test asks one object more than " + MOST_CALLS + " calls");
            }
            Method m = METHODS.get(name);
            Object[] words = new Object[args.length];
            for (int i = 0; i < args.length; i++) {
                words[i] = m.getParameterTypes()[i] == long.class ? (Object) args[i] : (Object) Math.toIntExact(args[i]);
            }
            try {
                return ((Number) m.invoke(rail, words)).longValue();
            } catch (InvocationTargetException e) {
                throw new IllegalStateException(text(name, args) + " threw", e.getCause());
            } catch (IllegalAccessException e) {
                throw new IllegalStateException(e);
            }
        }

        long call(String words) {
            String[] parts = words.split(" ");
            long[] args = new long[parts.length - 1];
            for (int i = 0; i < args.length; i++) {
                args[i] = Long.parseLong(parts[i + 1]);
            }
            return call(parts[0], args);
        }

        Subject setUp(String setup) {
            if (!setup.isEmpty()) {
                for (String clause : setup.split(";")) {
                    setUpOne(clause);
                }
            }
            return this;
        }

        private void setUpOne(String clause) {
            String rest = clause.substring(1);
            if (clause.charAt(0) == 'f') {
                for (char sign : rest.replace('|', ';').toCharArray()) {
                    call("feed", sign);
                }
                return;
            }
            String[] parts = rest.isEmpty() ? new String[0] : rest.split(",");
            long[] args = new long[parts.length];
            for (int i = 0; i < args.length; i++) {
                args[i] = parts[i].equals("n") ? -1 : Long.parseLong(parts[i]);
            }
            long answer = switch (clause.charAt(0)) {
                case 'b' -> call("bumper", args);
                case 'e' -> call("spring", args);
                case 'l' -> call("wall", 0, args[0]);
                case 'r' -> call("wall", 1, args[0]);
                case 'g' -> call("go", args);
                case 'v' -> call("renew", args[0], 1, args[1]);
                case 'm' -> call("renew", args[0], 0, args[1]);
                case 's' -> call("see", args);
                case 'n' -> call("event", args);
                case 'k' -> call("book", args);
                case 'i' -> call("image");
                case 'u' -> call("undo");
                case 'p' -> Math.max(0, call("read"));
                case 't' -> call("tape", args);
                case 'x' -> call("item", args);
                default -> throw new IllegalStateException(clause);
            };
            if (answer < 0 && answer != ABSENT) {
                throw new IllegalStateException("the set-up's " + clause + " is refused: " + answer);
            }
        }
    }

    private static String text(String name, long... args) {
        StringBuilder all = new StringBuilder(name).append('(');
        for (int i = 0; i < args.length; i++) {
            all.append(i == 0 ? "" : ", ").append(args[i]);
        }
        return all.append(')').toString();
    }

    /** Rows of calls that show, all together, whatever an object holds; each row is for an object of its own. */
    private static List<List<String>> looks() {
        List<String> rail = new ArrayList<>();
        List<String> strikes = new ArrayList<>();
        for (int i = 0; i < 6; i++) {
            rail.add("told " + i);
            for (int j = 0; j < 6; j++) {
                rail.add("of " + i + " " + j / 2 + " " + j % 2);
            }
            strikes.add("often " + i);
            for (int j = 0; j < 4; j++) {
                strikes.add("behind " + i + " -1 " + j / 2 + " " + j % 2);
            }
            strikes.add("at " + i + " 7 0");
        }
        for (int k = 0; k < 20; k++) {
            strikes.add("where " + k);
            strikes.add("time " + k + " 0");
            strikes.add("time " + k + " 1");
        }
        for (int what = 0; what < 2; what++) {
            for (int part = 0; part < 2; part++) {
                rail.add("push " + what + " " + part);
                strikes.add("then " + what + " " + part);
            }
        }
        List<String> rows = new ArrayList<>(List.of("mean 0", "mean 1", "looked", "after 0", "after 1", "after 2"));
        for (int i = 0; i < 4; i++) {
            rows.add("count " + i);
            rows.add("fits " + i + " 0");
            rows.add("fits " + i + " 1");
        }
        for (int n = 0; n <= 20; n += 5) {
            rows.add("odds " + n + " 0");
            rows.add("odds " + n + " 1");
        }
        List<String> image = new ArrayList<>(List.of("undo"));
        image.addAll(rail);
        image.addAll(rows);
        List<String> text = new ArrayList<>(List.of("count 3", "feed 50", "feed 59", "feed 114", "feed 110", "read"));
        text.addAll(rail);
        return List.of(rail, strikes, rows, image, text, tapeLooks(0, 2), tapeLooks(3, 5));
    }

    private static List<String> tapeLooks(int first, int last) {
        List<String> tapes = new ArrayList<>();
        for (int t = first; t <= last; t++) {
            for (int i = 0; i < 60; i++) {
                tapes.add("peek " + t + " " + i);
            }
            tapes.add("judge " + t + " 0");
            // one number that each sort keeps otherwise
            tapes.add("item " + t + " 0 -8070450532247928704");
            tapes.add("item " + t + " 1 80000000384");
            tapes.add("peek " + t + " 0");
            tapes.add("peek " + t + " 1");
        }
        return tapes;
    }

    /** The next looks are at this sentence, whose words stand so in the document. */
    void sentence(String promise, String words) {
        check.part(promise + " \"" + words + "\"");
        check.due("these words stand in the document", document == null || document.contains(words));
    }

    void so(String what, boolean holds) {
        check.due(what, holds);
    }

    /** What a call answers on a new object of a set-up. */
    long asked(String setup, String call, long... args) {
        return new Subject().setUp(setup).call(call, args);
    }

    /** Likewise, the call told with its words, blanks between. */
    long asked(String setup, String words) {
        return new Subject().setUp(setup).call(words);
    }

    void due(long want, String setup, String call, long... args) {
        check.due("[" + setup + "] " + text(call, args), want, asked(setup, call, args));
    }

    /** What is above and below the line, told by a call whose last word is the part. */
    void dueFraction(long above, long below, String setup, String call, long... args) {
        long[] all = Arrays.copyOf(args, args.length + 1);
        due(above, setup, call, all);
        all[args.length] = 1;
        due(below, setup, call, all);
    }

    /** What a call answers, behind which all is as without it. */
    void kept(long want, String setup, String call, long... args) {
        due(want, setup, call, args);
        StringBuilder words = new StringBuilder(call);
        for (long arg : args) {
            words.append(' ').append(arg);
        }
        kept(setup, words.toString());
    }

    /** Behind a call, told with its words, all is as without it. */
    void kept(String setup, String call) {
        for (List<String> look : LOOKS) {
            Subject one = new Subject().setUp(setup);
            Subject other = new Subject().setUp(setup);
            one.call(call);
            for (String question : look) {
                long due = other.call(question);
                check.due("[" + setup + "] " + call + " changes nothing: " + question, due, one.call(question));
            }
        }
    }

    /**
     * The word at a place of a call's words is taken from least to most; those just beside and far off are refused, and
     * change nothing.
     */
    void bounds(long refusal, int least, int most, String setup, int place, String call, long... args) {
        long[] words = args.clone();
        for (int taken : new int[] {least, most}) {
            words[place] = taken;
            long answer = asked(setup, call, words);
            check.due("[" + setup + "] " + text(call, words) + " is taken, not " + answer, !isRefusal(answer));
        }
        for (int refused : new int[] {least - 1, most + 1, LEAST, MOST}) {
            words[place] = refused;
            kept(refusal, setup, call, words);
        }
    }

    private static boolean isRefusal(long answer) {
        return answer >= FULL && answer <= NONE || answer >= SIZE && answer <= NOTHING || answer == NO;
    }

    /** The answers of the calls, with ; between, one behind the other on one object of a set-up. */
    void row(String setup, String calls, long... want) {
        Subject x = new Subject().setUp(setup);
        String[] all = calls.split(";");
        check.due("[" + setup + "] as many answers as calls", want.length, all.length);
        for (int i = 0; i < all.length && i < want.length; i++) {
            check.due("[" + setup + "] " + calls + ": the answer to " + all[i] + " at " + i, want[i], x.call(all[i]));
        }
    }

    /** Two set-ups make objects that answer alike, whatever is asked. */
    void alike(String setup, String other) {
        for (List<String> look : LOOKS) {
            Subject x = new Subject().setUp(setup);
            Subject y = new Subject().setUp(other);
            for (String question : look) {
                check.due("[" + setup + "] is like [" + other + "]: " + question, y.call(question), x.call(question));
            }
        }
    }

    void end() {
        check.end();
    }
}
