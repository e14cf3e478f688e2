import java.io.IOException;
import java.lang.reflect.Method;
import java.util.ArrayList;
import java.util.LinkedHashMap;
import java.util.LinkedHashSet;
import java.util.List;
import java.util.Map;
import java.util.Random;
import java.util.Set;
import java.util.TreeSet;
import java.util.regex.Matcher;
import java.util.regex.Pattern;

/** What README.md's tables say of each call holds: the examples as they stand, all else on random runs of calls. */
public final class ReadmeCallsTest {
    /** So few steps that, with the calls that look on, no object is called more than 512 times. */
    private static final int RUNS = 6000, STEPS = 38, SEED = 20261118;
    private static final String[] FINDINGS = {"", "NOTHING", "BEYOND", "UNLIKE", "NOUGHT", "SIZE"};
    private static final Pattern REFUSAL = Pattern.compile("\\b(BAD|FULL|STATE|SPENT|NOTHING|BEYOND|UNLIKE|NOUGHT|SIZE)\\b");
    /** These leave other things than what is told, though they stand in groups that look aside. */
    private static final Set<String> NOT_ASIDE = Set.of("least", "weeks", "lots");

    private static final Random RANDOM = new Random(SEED);
    private static final List<Call> CALLS = new ArrayList<>();

    /** One number that a call takes. */
    private record Taken(String name, String words) {
        boolean isBelowSize(int v) {
            return words.endsWith("(below: SIZE)") && v < 0;
        }

        /** Least and greatest; null if any int will do. */
        int[] range(LargerPacket x) {
            Matcher numbers = Pattern.compile("(\\d+) \\.\\. (\\d+)").matcher(words);
            if (numbers.lookingAt()) {
                return new int[] {Integer.parseInt(numbers.group(1)), Integer.parseInt(numbers.group(2))};
            }
            if (words.equals("a PACKET") || words.equals("a DEED")) {
                return new int[] {0, x.count(words.equals("a PACKET") ? 0 : 2) - 1};
            }
            Readme.check(words.matches("a place|any int( \\(below: SIZE\\))?"), "what is meant by " + name + " " + words + "?");
            return null;
        }
    }

    /** One line of the tables, and what was seen of it. */
    private static final class Call {
        final String group, name, answers, examples;
        final List<Taken> takes = new ArrayList<>();
        final Set<String> refusals = new LinkedHashSet<>();
        final Set<String> seen = new TreeSet<>();
        boolean hasAnswered = false, hasAnsweredNone = false, hasAsked = false, hasRatio = false;
        Method method = null;

        Call(List<String> row) {
            group = row.get(0);
            String words = Readme.bare(row.get(1));
            name = words.substring(0, words.indexOf('('));
            for (String taken : row.get(2).isEmpty() ? new String[0] : row.get(2).split("; ")) {
                takes.add(new Taken(taken.substring(0, taken.indexOf(' ')), taken.substring(taken.indexOf(' ') + 1)));
            }
            answers = row.get(3);
            for (String refusal : row.get(4).isEmpty() ? new String[0] : row.get(4).split(", ")) {
                refusals.add(refusal);
            }
            examples = row.get(5);
            String due = name + "(" + String.join(", ", takes.stream().map(Taken::name).toList()) + ")";
            Readme.check(words.equals(due), words + " takes " + due);
        }

        int groupNumber() {
            return Integer.parseInt(group.substring(0, group.indexOf(' ')));
        }

        /** What these answer may look like a refusal. */
        boolean tellsAnyNumber() {
            return groupNumber() == 10 && takes.isEmpty();
        }

        boolean looksAside() {
            return groupNumber() >= 3 && !NOT_ASIDE.contains(name);
        }

        boolean tellsByAsked() {
            return answers.contains("asked():");
        }

        boolean tellsRatio() {
            return answers.contains("upper(), lower():");
        }
    }

    public static void main(String[] args) throws Exception {
        for (List<String> row : Readme.table("call")) {
            CALLS.add(new Call(row));
        }
        checkFace();
        if (Readme.hasDocument()) {
            checkGroups();
            checkRefusals();
            checkLists();
        }
        checkBefore();
        checkExamples();
        for (int run = 0; run < RUNS; run++) {
            goThroughRun();
        }
        for (Call call : CALLS) {
            checkSeen(call);
        }
        Readme.end();
    }

    private static void checkFace() throws IOException {
        Map<String, Method> methods = new LinkedHashMap<>();
        for (Method m : LargerPacket.class.getMethods()) {
            if (m.getDeclaringClass() == LargerPacket.class) {
                methods.put(m.getName(), m);
            }
        }
        for (Call call : CALLS) {
            call.method = methods.remove(call.name);
            Readme.check(call.method != null, "there is no call " + call.name + ", or it stands twice");
            String taken = String.join(", ", call.takes.stream().map(t -> "int " + t.name).toList());
            Readme.check(Readme.documentSays(" " + call.name + "(" + taken + ");"), "the document's " + call.name + " does not take " + taken);
        }
        Readme.check(methods.isEmpty(), "README.md does not tell of " + methods.keySet());
    }

    private static void checkGroups() throws IOException {
        List<String> told = new ArrayList<>();
        for (Call call : CALLS) {
            told.add(call.group + ": " + call.name);
        }
        List<String> due = new ArrayList<>();
        Matcher group = Pattern.compile("(?m)^Ahead of the calls (.*) the interface says: ---- ([^(.]*)").matcher(Readme.document());
        while (group.find()) {
            for (String name : group.group(1).split(", ")) {
                due.add(group.group(2).strip() + ": " + Readme.bare(name));
            }
        }
        Readme.check(told.equals(due), "the groups are\n" + due + ", README.md says\n" + told);
    }

    private static String promiseOf(Call call) throws IOException {
        Matcher promise = Pattern.compile("(?m)^`(?:int|long) " + call.name + "\\(.*\\)`: (.*)$").matcher(Readme.document());
        return promise.find() ? promise.group(1) : "";
    }

    /** What a number "what" asks for: README.md has the document's list as it is. */
    private static void checkLists() throws IOException {
        for (Call call : CALLS) {
            Matcher list = Pattern.compile("0 .*?, 5 .*?(?=, told|\\. BAD)").matcher(promiseOf(call));
            if (call.takes.stream().anyMatch(t -> t.name.equals("what"))) {
                Readme.check(list.find() && call.answers.endsWith(list.group()), "the document has another list for " + call.name);
            }
        }
    }

    /** The promises name them in the order in which they are looked for. */
    private static void checkRefusals() throws IOException {
        for (Call call : CALLS) {
            Set<String> due = new LinkedHashSet<>();
            Matcher word = REFUSAL.matcher(promiseOf(call));
            while (word.find()) {
                due.add(word.group());
            }
            Readme.check(new ArrayList<>(due).equals(new ArrayList<>(call.refusals)), call.name + " is refused by " + due + ", README.md says " + call.refusals);
        }
    }

    /** "; 0 before": what a new object answers. */
    private static void checkBefore() throws Exception {
        int found = 0;
        for (Call call : CALLS) {
            Matcher before = Pattern.compile("; (\\d+) before$").matcher(call.answers);
            if (before.find()) {
                found++;
                String answer = call.method.invoke(new LargerPacket()).toString();
                Readme.check(answer.equals(before.group(1)), call.name + "() of a new object answers " + answer);
            }
        }
        Readme.check(found == 4, found + " calls say what they answer before");
    }

    private static void checkExamples() throws Exception {
        Matcher house = Pattern.compile("TEXT 3 has been filled with `(.*)`\\.").matcher(Readme.text());
        LargerPacket x = new LargerPacket();
        write(x, 3, house.find() ? house.group(1) : "");
        for (Call call : CALLS) {
            Matcher example = Pattern.compile("`(\\w+)\\((.*?)\\)` ([A-Z]+|-?\\d+)(, |$)").matcher(call.examples);
            int end = 0;
            boolean isOwn = false;
            while (example.find() && example.start() == end) {
                end = example.end();
                isOwn |= example.group(1).equals(call.name);
                String got = exampleAnswer(x, example.group(1), example.group(2));
                String due = example.group(3).matches("[A-Z]+")
                    ? LargerPacket.class.getField(example.group(3)).get(null).toString() : example.group(3);
                Readme.check(got.equals(due), "the example " + example.group() + " answers " + got);
            }
            Readme.check(isOwn && end == call.examples.length(), "there is no example of " + call.name + ", or not in the form of one: " + call.examples);
        }
    }

    private static String exampleAnswer(LargerPacket x, String name, String numbers) throws Exception {
        for (Call call : CALLS) {
            if (call.name.equals(name)) {
                Object[] args = new Object[call.takes.size()];
                String[] words = numbers.isEmpty() ? new String[0] : numbers.split(", ");
                Readme.check(words.length == args.length, name + " takes " + args.length + " numbers, not " + numbers);
                for (int a = 0; a < args.length; a++) {
                    args[a] = Integer.parseInt(words[a]);
                }
                return call.method.invoke(x, args).toString();
            }
        }
        return "nothing";
    }

    private static void write(LargerPacket x, int t, String words) {
        x.text(t, words.length());
        for (int i = 0; i < words.length(); i++) {
            x.put(t, i, words.charAt(i));
        }
    }

    private static void goThroughRun() throws Exception {
        LargerPacket x = new LargerPacket();
        write(x, 0, RANDOM.nextInt(12) == 0 ? "n3 40" : someHouse());
        if (RANDOM.nextInt(8) != 0) {
            x.house(0);
        }
        // Few runs would come to 40 DEEDS by themselves.
        for (int full = RANDOM.nextInt(4); full > 1; full--) {
            x.lots(20, 1 + RANDOM.nextInt(1000000));
        }
        for (int step = 0; step < STEPS; step++) {
            takeStep(x, CALLS.get(RANDOM.nextInt(CALLS.size())));
        }
    }

    private static String someHouse() {
        boolean isPoor = RANDOM.nextInt(10) == 0;
        StringBuilder words = new StringBuilder("n").append(1 + RANDOM.nextInt(9)).append(RANDOM.nextInt(10)).append(RANDOM.nextInt(10));
        for (int packets = 1 + RANDOM.nextInt(6); packets > 0; packets--) {
            words.append(isPoor ? 's' : "pchsly".charAt(RANDOM.nextInt(6))).append(isPoor ? 1 : 1 + RANDOM.nextInt(9));
            words.append(RANDOM.nextInt(10)).append(RANDOM.nextInt(10)).append(1 + RANDOM.nextInt(9));
        }
        return words.toString();
    }

    private static void takeStep(LargerPacket x, Call call) throws Exception {
        Object[] args = new Object[call.takes.size()];
        boolean isBad = false;
        boolean isSize = false;
        for (int a = 0; a < args.length; a++) {
            Taken taken = call.takes.get(a);
            int[] range = taken.range(x);
            int v = some(range);
            args[a] = v;
            isSize |= taken.isBelowSize(v);
            isBad |= range != null && (v < range[0] || v > range[1]) && !taken.isBelowSize(v);
        }
        int asked = x.asked();
        long upper = x.upper();
        long lower = x.lower();
        long digest = x.digest();
        long answer = ((Number) call.method.invoke(x, args)).longValue();
        String refusal = call.tellsAnyNumber() ? "" : nameOf(answer, x);
        String what = call.name + java.util.Arrays.toString(args) + " answered " + answer + " " + refusal;
        Readme.check(refusal.equals("BAD") == isBad, what + ": is it BAD?");
        Readme.check(isBad || !isSize || refusal.equals("SIZE"), what + ": is it not SIZE?");
        boolean isNone = answer == LargerPacket.NONE && !call.tellsAnyNumber();
        boolean hasTold = refusal.isEmpty() && !isNone;
        boolean isAskedAnew = x.asked() != asked;
        boolean isRatioAnew = x.upper() != upper || x.lower() != lower;
        Readme.check(!isAskedAnew || hasTold && call.tellsByAsked(), what + " and changed asked()");
        Readme.check(!isRatioAnew || hasTold && call.tellsRatio(), what + " and changed upper(), lower()");
        Readme.check(x.digest() == digest || hasTold && !call.looksAside(), what + " and changed digest()");
        if (hasTold) {
            call.hasAnswered = true;
            Matcher always = Pattern.compile("(\\d+)[;:]").matcher(call.answers);
            Readme.check(!always.lookingAt() || answer == Integer.parseInt(always.group(1)), what + ", README.md says " + call.answers);
            Readme.check(!call.answers.startsWith("n:") || args[1].equals((int) answer), what + ", not n");
        } else if (!isNone) {
            call.seen.add(refusal);
        }
        call.hasAnsweredNone |= isNone;
        call.hasAsked |= isAskedAnew;
        call.hasRatio |= isRatioAnew;
    }

    private static int some(int[] range) {
        if (range == null) {
            return RANDOM.nextInt(6) == 0 ? RANDOM.nextInt() : RANDOM.nextInt(16) - 1;
        }
        switch (RANDOM.nextInt(24)) {
            case 0:
                return range[0] - 1;
            case 1:
                return range[1] + 1;
            case 2:
                return RANDOM.nextInt();
            case 3, 4:
                return range[0];
            case 5, 6:
                return range[1];
            default:
                return range[0] > range[1] ? 0 : (int) (range[0] + (long) (RANDOM.nextDouble() * ((long) range[1] - range[0] + 1)));
        }
    }

    /** No refusal: nothing. */
    private static String nameOf(long answer, LargerPacket x) {
        if (answer == LargerPacket.FINDING) {
            return FINDINGS[x.finding()];
        }
        return answer == LargerPacket.BAD ? "BAD" : answer == LargerPacket.FULL ? "FULL"
            : answer == LargerPacket.STATE ? "STATE" : answer == LargerPacket.SPENT ? "SPENT" : "";
    }

    private static void checkSeen(Call call) {
        Readme.check(call.hasAnswered, call.name + " never answered");
        Readme.check(call.seen.equals(new TreeSet<>(call.refusals)), call.name + " was refused by " + call.seen + ", README.md says " + call.refusals);
        Readme.check(call.hasAnsweredNone == call.answers.contains("NONE:"), call.name + ": can it answer NONE?");
        Readme.check(call.hasAsked == call.tellsByAsked(), call.name + ": does it tell by asked()?");
        Readme.check(call.hasRatio == call.tellsRatio(), call.name + ": does it tell by upper(), lower()?");
    }
}
