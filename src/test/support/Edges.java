import java.io.IOException;
import java.lang.reflect.Method;
import java.nio.file.Files;
import java.nio.file.Path;
import java.util.ArrayList;
import java.util.HashMap;
import java.util.List;
import java.util.Map;

/** What the tests of the document's sentences share: the sentence in question, and runs of calls with twins. */
abstract class Edges {
    static final int BAD = -1, FULL = -2, FINDING = -3, STATE = -4, SPENT = -6, NONE = -9;
    static final int NOTHING = 1, BEYOND = 2, UNLIKE = 3, NOUGHT = 4, SIZE = 5;
    static final int MIN = Integer.MIN_VALUE, MAX = Integer.MAX_VALUE;
    /** One PACKET of each KIND, in the order of the KINDS; NEED 3, ROOM 40. */
    static final String SIX = "n340 p4409c5455h3302s9808l4359y2203";
    /** An object's answers behind so many calls are free. */
    static final int MOST_CALLS = 512;

    private static final Path DOCUMENT = Path.of("../shared/DOC.md");
    private static String document = null;
    private static String where = "";
    private static int sentences = 0;
    private static int wrong = 0;

    /** What follows tests these words of a promise; 0: of the document ahead of the promises. */
    static void says(int promise, String words) {
        where = "promise " + promise + " (" + words + ")";
        sentences++;
        if (Files.exists(DOCUMENT) && !section(promise).contains(words)) {
            fail("the document does not say so");
        }
    }

    static String section(int promise) {
        if (document == null) {
            try {
                document = Files.readString(DOCUMENT);
            } catch (IOException e) {
                throw new IllegalStateException(e);
            }
        }
        int from = promise == 0 ? 0 : document.indexOf("## Promise " + promise + ":");
        int to = document.indexOf(promise == 0 ? "\n## Promise 1:" : "\n## ", from + 1);
        return document.substring(from, to);
    }

    static void fail(String what) {
        wrong++;
        System.out.println(where + ": " + what);
    }

    static void expect(String what, Object got, Object want) {
        if (!got.equals(want)) {
            fail(what + " answered " + got + ", due is " + want);
        }
    }

    static void end() {
        System.out.println(wrong == 0 ? sentences + " sentences hold" : wrong + " answers are not as due");
        if (wrong != 0) {
            System.exit(1);
        }
    }

    static boolean isRefusal(long answer) {
        return answer == BAD || answer == FULL || answer == FINDING || answer == STATE || answer == SPENT;
    }

    /** A run of calls on one object, each told by its text, so that a twin comes to the same state. */
    static final class Run {
        private static final Map<String, Method> METHODS = new HashMap<>();
        private final LargerPacket x = new LargerPacket();
        private final List<String> calls = new ArrayList<>();

        static {
            for (Method m : LargerPacket.class.getMethods()) {
                if (m.getDeclaringClass() == LargerPacket.class) {
                    METHODS.put(m.getName(), m);
                }
            }
        }

        /** A run that has read this HOUSE (by TEXT 3, which stays). */
        static Run of(String words) {
            Run run = new Run();
            run.write(3, words);
            return run.does("house(3)");
        }

        Run twin() {
            Run twin = new Run();
            for (String call : calls) {
                twin.call(call);
            }
            return twin;
        }

        long call(String call) {
            calls.add(call);
            if (calls.size() > MOST_CALLS) {
                fail("the test calls an object more than " + MOST_CALLS + " times");
            }
            int open = call.indexOf('(');
            String inside = call.substring(open + 1, call.length() - 1);
            String[] words = inside.isEmpty() ? new String[0] : inside.split(", ");
            Object[] args = new Object[words.length];
            for (int a = 0; a < args.length; a++) {
                args[a] = words[a].equals("MIN") ? MIN : words[a].equals("MAX") ? MAX : Integer.parseInt(words[a]);
            }
            try {
                return ((Number) METHODS.get(call.substring(0, open)).invoke(x, args)).longValue();
            } catch (ReflectiveOperationException e) {
                throw new IllegalStateException(call + " behind " + calls, e);
            }
        }

        /** Calls that only lead to a state: none may be refused. */
        Run does(String... these) {
            for (String call : these) {
                long got = call(call);
                if (isRefusal(got)) {
                    fail(call + " was refused by " + got + " behind " + calls);
                }
            }
            return this;
        }

        Run write(int t, String words) {
            does("text(" + t + ", " + words.length() + ")");
            for (int i = 0; i < words.length(); i++) {
                if (words.charAt(i) != ' ') {
                    does("put(" + t + ", " + i + ", " + (int) words.charAt(i) + ")");
                }
            }
            return this;
        }

        Run lay(int r, int... values) {
            does("row(" + r + ", " + values.length + ")");
            for (int i = 0; i < values.length; i++) {
                does("lay(" + r + ", " + i + ", " + values[i] + ")");
            }
            return this;
        }

        /** DEEDS until there are so many: the card taken and given back. */
        Run deeds(int many) {
            for (long d = call("count(2)"); d < many; d++) {
                does("card(" + (1 - twin().call("count(8)")) + ")");
            }
            return due("count(2)", many);
        }

        Run due(String call, long want) {
            expect(call, call(call), want);
            return this;
        }

        Run told(String call, long want) {
            return due(call, 1).due("asked()", want);
        }

        Run ratio(String call, long upper, long lower) {
            return due(call, 1).due("upper()", upper).due("lower()", lower);
        }

        /** All of a ROW, and not more; on a twin, to save calls. */
        Run rowIs(int r, int... values) {
            Run twin = twin();
            for (int i = 0; i < values.length; i++) {
                twin.told("at(" + r + ", " + i + ")", values[i]);
            }
            twin.due("at(" + r + ", " + values.length + ")", FINDING).due("finding()", BEYOND);
            return this;
        }

        Run countsAre(int... values) {
            for (int what = 0; what < values.length; what++) {
                due("count(" + what + ")", values[what]);
            }
            return this;
        }

        Run larderIs(int... values) {
            for (int k = 0; k < 10; k++) {
                due("larder(" + k + ")", k < values.length ? values[k] : 0);
            }
            return this;
        }

        /** A refusal, by an answer below 0 or by a FINDING 1 .. 5, that changes nothing else. */
        Run refused(String call, int by) {
            Run behind = twin();
            expect(call, behind.call(call), (long) (by < 0 ? by : FINDING));
            expect("finding() behind " + call, behind.twin().call("finding()"),
                by < 0 ? twin().call("finding()") : (long) by);
            for (int f = 1; f <= 5; f++) {
                String often = "findings(" + f + ")";
                expect(often + " behind " + call, behind.twin().call(often), twin().call(often) + (f == by ? 1 : 0));
            }
            expect("all that is told behind " + call, behind.allThatIsTold(), allThatIsTold());
            call(call);
            return this;
        }

        /** The least and the greatest number that stand for #, and those beyond, which are BAD. */
        Run takes(String pattern, int low, int high) {
            return takes(pattern, low, high, BAD, BAD);
        }

        Run takes(String pattern, int low, int high, int below, int above) {
            for (int v : new int[] {low, high}) {
                String call = pattern.replace("#", Integer.toString(v));
                long got = twin().call(call);
                if (isRefusal(got)) {
                    fail(call + " was refused by " + got);
                }
            }
            for (int v : new int[] {low - 1, MIN}) {
                twin().refused(pattern.replace("#", Integer.toString(v)), below);
            }
            for (int v : new int[] {high + 1, MAX}) {
                twin().refused(pattern.replace("#", Integer.toString(v)), above);
            }
            return this;
        }

        /** Also the HOUSE behind each DEED, and each kept HOUSE with its DEEDS; but no FINDINGS. */
        List<Long> allThatIsTold() {
            List<Long> all = new ArrayList<>();
            Run twin = twin();
            for (String call : new String[] {"asked()", "upper()", "lower()", "digest()"}) {
                all.add(twin.call(call));
            }
            twin.undoing(all);
            for (int k = 0; k < 3; k++) {
                Run other = twin();
                long deeds = other.call("on(" + k + ")");
                all.add(deeds);
                if (deeds >= 0) {
                    other.undoing(all);
                }
            }
            return all;
        }

        private void undoing(List<Long> all) {
            all.add(call("digest()"));
            for (long d = call("count(2)") - 1; d >= 0; d--) {
                all.add(call("undo(" + d + ")"));
                all.add(call("digest()"));
            }
        }
    }
}
