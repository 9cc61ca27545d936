import java.lang.reflect.InvocationTargetException;
import java.lang.reflect.Method;
import java.lang.reflect.Modifier;
import java.util.ArrayList;
import java.util.EnumSet;
import java.util.HashMap;
import java.util.List;
import java.util.Map;
import java.util.Set;

/**
 * A test written as lines, a call a line. Behind an arrow stands what is due; such a line also looks at all that
 * its call must leave alone, on new objects that get the same calls, up to this one and with it.
 *
 * <pre>
 * addBench 0 0 5                              a call whose answer is not looked at
 * addBench 0 1 5 -> 1                         an answer
 * addBench 0 9 5 -> throws IndexOutOfBounds   an exception of exactly this class
 * addBench 0 1 5 -> rejected CELL_TAKEN 1     a rejection, its reason and its detail
 * execute "end 0" -> rejected COMMAND_REJECTED 0 NOT_LET    .. and its cause
 * execute "end" -> syntax 3                   a syntax error and its offset
 * type "end" -> 3                             appends these characters to the input
 * text writeRow 0 -> 01....                   writes, and reads the output to its end
 * repeat 8 setNoiseLimit 3                    the same call again and again
 * </pre>
 */
final class Script {
    private static final int CALLS_PROMISED = 512;
    // No look takes more than the other 240 calls.
    private static final int CALLS_BEFORE_A_LOOK = 272;
    private static final String ARROW = " -> ";
    private static final Map<String, Method> FACE = face();
    private static final String[] REASONS = {"none", "BENCH_LIMIT", "FOUNTAIN_LIMIT", "TENANT_LIMIT", "CELL_TAKEN",
        "BANNED", "HAS_LEASE", "LET", "LOUD", "TOO_POOR", "NOT_LET", "TERM_LIMIT", "COMMAND_REJECTED"};
    private static final Set<String> CHANGES = Set.of("addBench", "setRent", "addFountain", "setLoudness",
        "switchFountain", "setNoiseLimit", "addTenant", "giveCoins", "lease", "endLease", "renew", "passMonths",
        "execute");
    private static final String[] COUNTS = {"benchCount", "fountainCount", "tenantCount", "noiseLimit", "month",
        "brokerCoins", "depositTotal", "allCoinsGiven"};
    private static final String[] OTHER_TOTALS = {"quietCount", "allCoins", "defaultedLeases", "terminatedLeases",
        "completedLeases", "isConsistent"};

    /** What an object has: the data, and what undo and the snapshot do not cover or hold themselves. */
    private enum Part { DATA, HISTORY, SNAPSHOT, OUTPUT, INPUT, REJECTION, SYNTAX_ERROR }

    private record Step(String name, int[] arguments) {
    }

    private final Subject subject = new Subject();
    private final List<Step> made = new ArrayList<>();
    private final Map<String, String> looks = new HashMap<>();

    private Script() {
    }

    static void test(String name, String lines) {
        Check.test(name, () -> followed(lines));
    }

    /** Two runs after which the data is the same. */
    static void sameData(String name, String lines, String otherLines) {
        Check.test(name, () -> {
            String due = followed(otherLines).wholeData();
            same(name, Part.DATA, due, followed(lines).wholeData());
        });
    }

    private static Script followed(String lines) {
        Script script = new Script();
        lines.lines().filter(line -> !line.isBlank()).forEach(line -> script.follow(line.strip()));
        return script;
    }

    /** Lines that add so many benches, in the rows 0 and 1; the rents are 5, 6, 7 and so on. */
    static String benches(int count) {
        StringBuilder lines = new StringBuilder();
        for (int bench = 0; bench < count; bench++) {
            lines.append("addBench ").append(bench / 6).append(' ').append(bench % 6).append(' ');
            lines.append(5 + bench).append('\n');
        }
        return lines.toString();
    }

    /** Lines that add so many fountains, in the row 5, which only their own cells hear. */
    static String fountains(int count) {
        StringBuilder lines = new StringBuilder();
        for (int fountain = 0; fountain < count; fountain++) {
            lines.append("addFountain 5 ").append(fountain).append(" 1\n");
        }
        return lines.toString();
    }

    /** Lines that add so many tenants with so many coins each. */
    static String tenants(int count, int coins) {
        return ("addTenant " + coins + "\n").repeat(count);
    }

    // ---- lines

    private void follow(String line) {
        int arrow = line.lastIndexOf(ARROW);
        String call = arrow < 0 ? line : line.substring(0, arrow);
        int before = made.size();
        String answer = run(call);
        if (arrow < 0) {
            return;
        }
        String due = line.substring(arrow + ARROW.length());
        String name = nameOf(call);
        String got = explained(name, answer);
        if (!due.equals(got)) {
            Check.wrong(line + " answers " + got);
        }
        if (made.size() <= CALLS_BEFORE_A_LOOK) {
            lookAround(line, before, name, answer);
        }
    }

    private String run(String call) {
        String[] words = call.split(" ");
        switch (words[0]) {
            case "repeat":
                return repeat(Integer.parseInt(words[1]), call.substring(words[0].length() + words[1].length() + 2));
            case "type":
                return type(quoted(call));
            case "execute":
                type(quoted(call));
                return ask("execute");
            case "text":
                return wholeText(run(call.substring(5)));
            default:
                return ask(words[0], numbers(words));
        }
    }

    private String repeat(int times, String call) {
        String answer = "";
        for (int time = 0; time < times; time++) {
            answer = run(call);
        }
        return answer;
    }

    private String type(String text) {
        String answer = "";
        for (int i = 0; i < text.length(); i++) {
            answer = ask("appendInput", text.charAt(i));
        }
        return answer;
    }

    private static String quoted(String call) {
        int first = call.indexOf('"');
        return first < 0 ? "" : call.substring(first + 1, call.lastIndexOf('"'));
    }

    private String wholeText(String length) {
        StringBuilder text = new StringBuilder();
        String sign = ask("outputAt", 0);
        while (sign.length() == 1) {
            text.append(sign);
            sign = ask("outputAt", text.length());
        }
        boolean fits = length.equals(String.valueOf(text.length())) && sign.equals("throws IndexOutOfBounds");
        return fits ? text.toString() : text + " of length " + length + ", then " + sign;
    }

    private static int[] numbers(String[] words) {
        int[] numbers = new int[words.length - 1];
        for (int i = 0; i < numbers.length; i++) {
            String word = words[i + 1];
            numbers[i] = word.equals("MAX") ? Integer.MAX_VALUE : word.equals("MIN") ? Integer.MIN_VALUE
                : Integer.parseInt(word);
        }
        return numbers;
    }

    private static String nameOf(String call) {
        String[] words = call.split(" ");
        switch (words[0]) {
            case "repeat":
                return words[2];
            case "type":
                return "appendInput";
            case "text":
                return words[1];
            default:
                return words[0];
        }
    }

    private String ask(String name, int... arguments) {
        made.add(new Step(name, arguments));
        return subject.ask(name, arguments);
    }

    /** The answer, and behind a rejection or a syntax error what the object tells of it. */
    private String explained(String name, String answer) {
        if (answer.equals("throws UnsupportedOperation")) {
            String cause = ask("causeReason");
            return "rejected " + reason(ask("rejectionReason")) + " " + ask("rejectionDetail")
                + (cause.equals("throws NoSuchElement") ? "" : " " + reason(cause));
        }
        if (name.equals("execute") && answer.equals("throws IllegalArgument")) {
            return "syntax " + ask("syntaxErrorOffset");
        }
        return answer;
    }

    private static String reason(String answer) {
        return answer.matches("1?\\d") && Integer.parseInt(answer) < REASONS.length
            ? REASONS[Integer.parseInt(answer)] : answer;
    }

    // ---- what a call must leave alone

    private static Set<Part> mayAlter(String name, String answer) {
        Set<Part> parts = EnumSet.noneOf(Part.class);
        boolean refused = answer.startsWith("throws ");
        if (answer.equals("throws UnsupportedOperation")) {
            parts.add(Part.REJECTION);
        }
        if (name.equals("execute")) {
            parts.add(Part.INPUT);
            if (answer.equals("throws IllegalArgument")) {
                parts.add(Part.SYNTAX_ERROR);
            }
        }
        if (!refused && (CHANGES.contains(name) || name.equals("undo") || name.equals("restoreSnapshot"))) {
            parts.addAll(EnumSet.of(Part.DATA, Part.HISTORY));
        }
        if (!refused && name.equals("appendInput")) {
            parts.add(Part.INPUT);
        }
        if (!refused && name.startsWith("write")) {
            parts.add(Part.OUTPUT);
        }
        if (name.equals("saveSnapshot")) {
            parts.add(Part.SNAPSHOT);
        }
        return parts;
    }

    private void lookAround(String line, int before, String name, String answer) {
        int after = made.size();
        Set<Part> altered = mayAlter(name, answer);
        boolean sameData = !altered.contains(Part.DATA);
        for (Part part : EnumSet.complementOf(EnumSet.copyOf(altered))) {
            same(line, part, look(part, before, sameData), look(part, after, sameData));
        }
        if (name.equals("execute")) {
            same(line, Part.INPUT, "1", replay(after).ask("appendInput", ' '));
        }
        if (CHANGES.contains(name) && !sameData && !line.startsWith("repeat")) {
            same(line + ", undone", Part.DATA, look(Part.DATA, before, true), dataUndone(after));
        }
    }

    private static void same(String line, Part part, String before, String after) {
        if (before.equals(after)) {
            return;
        }
        int from = 0;
        while (from < before.length() && from < after.length() && before.charAt(from) == after.charAt(from)) {
            from++;
        }
        from = Math.max(0, from - 20);
        Check.wrong(line + ", the " + part + " before: .." + piece(before, from) + ", after: .." + piece(after, from));
    }

    private static String piece(String text, int from) {
        return text.substring(Math.min(from, text.length()), Math.min(from + 60, text.length()));
    }

    private String look(Part part, int count, boolean sameData) {
        return looks.computeIfAbsent(part + " " + count + sameData, key -> lookAnew(part, count, sameData));
    }

    private String wholeData() {
        return replay(made.size()).data() + replay(made.size()).cells();
    }

    private String lookAnew(Part part, int count, boolean sameData) {
        Subject twin = replay(count);
        switch (part) {
            case DATA:
                return twin.data() + replay(count).cells();
            case HISTORY:
                return twin.history();
            case SNAPSHOT:
                return twin.snapshot();
            case OUTPUT:
                return twin.output();
            case INPUT:
                return twin.input() + (sameData ? replay(count).execution() : "");
            case REJECTION:
                return twin.ask("rejectionReason") + twin.ask("rejectionDetail") + twin.ask("causeReason");
            default:
                return twin.ask("syntaxErrorOffset");
        }
    }

    private String dataUndone(int count) {
        Subject values = replay(count);
        values.ask("undo");
        Subject cells = replay(count);
        cells.ask("undo");
        return values.data() + cells.cells();
    }

    private Subject replay(int count) {
        Subject twin = new Subject();
        for (Step step : made.subList(0, count)) {
            twin.ask(step.name, step.arguments);
        }
        return twin;
    }

    private static Map<String, Method> face() {
        Map<String, Method> methods = new HashMap<>();
        for (Method method : BenchBroker.class.getDeclaredMethods()) {
            if (Modifier.isPublic(method.getModifiers())) {
                methods.put(method.getName(), method);
            }
        }
        return methods;
    }

    /** A broker whose calls are named by words and counted: nothing is promised of more than 512. */
    private static final class Subject {
        private final BenchBroker broker = new BenchBroker();
        private int calls = 0;

        String ask(String name, int... arguments) {
            calls++;
            Method method = FACE.get(name);
            if (calls > CALLS_PROMISED || method == null) {
                throw new IllegalStateException("call " + calls + " of " + name);
            }
            Object[] values = new Object[arguments.length];
            for (int i = 0; i < values.length; i++) {
                boolean sign = method.getParameterTypes()[i] == char.class;
                values[i] = sign ? (Object) (char) arguments[i] : (Object) arguments[i];
            }
            try {
                return String.valueOf(method.invoke(broker, values));
            } catch (InvocationTargetException e) {
                return "throws " + e.getCause().getClass().getSimpleName().replace("Exception", "");
            } catch (IllegalAccessException e) {
                throw new IllegalStateException(e);
            }
        }

        private int count(String name) {
            return Integer.parseInt(ask(name));
        }

        private String all(String[] names, int... arguments) {
            StringBuilder answers = new StringBuilder();
            for (String name : names) {
                answers.append(' ').append(ask(name, arguments));
            }
            return answers.toString();
        }

        String data() {
            StringBuilder data = new StringBuilder(all(COUNTS)).append(all(OTHER_TOTALS));
            String[] ofBench = {"rowOf", "columnOf", "baseRent", "rentOf", "tenantOf", "depositOf", "monthsLeft"};
            for (int bench = 0; bench < count("benchCount"); bench++) {
                data.append(" | bench").append(all(ofBench, bench));
            }
            String[] ofFountain = {"loudnessOf", "isRunning"};
            for (int fountain = 0; fountain < count("fountainCount"); fountain++) {
                data.append(" | fountain").append(all(ofFountain, fountain));
            }
            String[] ofTenant = {"coinsOf", "defaultsOf", "benchOf"};
            for (int tenant = 0; tenant < count("tenantCount"); tenant++) {
                data.append(" | tenant").append(all(ofTenant, tenant));
            }
            return data.toString();
        }

        String cells() {
            StringBuilder cells = new StringBuilder();
            for (int row = 0; row < 6; row++) {
                ask("writeRow", row);
                cells.append(" | ").append(output());
                for (int column = 0; column < 6; column++) {
                    cells.append(' ').append(ask("noiseAt", row, column));
                }
            }
            return cells.toString();
        }

        String history() {
            StringBuilder history = new StringBuilder();
            String left = "";
            for (int undone = 0; undone < 9 && !left.startsWith("throws "); undone++) {
                left = ask("undo");
                history.append(" | ").append(left).append(':').append(all(COUNTS));
            }
            return history.append(data()).toString();
        }

        String snapshot() {
            String answer = ask("restoreSnapshot");
            return answer.startsWith("throws ") ? answer : answer + data();
        }

        String output() {
            StringBuilder text = new StringBuilder();
            String sign = ask("outputAt", 0);
            for (int index = 1; sign.length() == 1; index++) {
                text.append(sign);
                sign = ask("outputAt", index);
            }
            return text.toString();
        }

        String input() {
            return ask("appendInput", '~') + " " + ask("execute") + " " + ask("syntaxErrorOffset");
        }

        String execution() {
            return " " + ask("execute") + " " + ask("syntaxErrorOffset") + data();
        }
    }
}
