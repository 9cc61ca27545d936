import java.lang.reflect.InvocationTargetException;
import java.lang.reflect.Method;
import java.lang.reflect.Modifier;
import java.util.ArrayList;
import java.util.Comparator;
import java.util.HashMap;
import java.util.List;
import java.util.Map;
import java.util.Objects;

/** Long walks through all calls, each answer compared with the model's. The steps come from a counted sequence. */
public final class WalkTest {
    private static final int WALKS = 1500;
    private static final int CALLS = 512;
    private static final int LONGEST_TEXT = 62;
    private static final String[] CHANGES = {"addBench", "setRent", "addFountain", "setLoudness", "switchFountain",
        "setNoiseLimit", "addTenant", "giveCoins", "lease", "lease", "lease", "endLease", "renew", "passMonths",
        "passMonths", "undo", "saveSnapshot", "restoreSnapshot"};
    // What the arguments are: b bench, t tenant, f fountain, c row or column, r rent, l loudness, p coins,
    // m months, n some number, a character.
    private static final Map<String, String> KINDS = kinds("addBench ccr", "setRent br", "addFountain ccl",
        "setLoudness fl", "switchFountain f", "setNoiseLimit n", "addTenant p", "giveCoins tp", "lease tbm",
        "endLease b", "renew bm", "passMonths m", "rowOf b", "columnOf b", "baseRent b", "rentOf b", "loudnessOf f",
        "isRunning f", "noiseAt cc", "noiseBySpreading cc", "isQuiet b", "coinsOf t", "defaultsOf t", "benchOf t",
        "canLease tb", "cheapestFor t", "isLet b", "tenantOf b", "depositOf b", "monthsLeft b", "defaultMonth b",
        "incomeWithin m", "incomeByLeases m", "benchByRent b", "tenantByCoins t", "writeBench b", "writeRow c",
        "outputAt n", "appendInput a");
    // A capital has one digit in a command, whatever its method accepts.
    private static final String[] COMMANDS = {"bench CCr", "fountain CCL", "tenant p", "give Tp", "lease TBm", "end B",
        "renew Bm", "switch F", "limit n", "pass m"};
    private static final int[] EDGES = {Integer.MIN_VALUE, -1, 0, 6, 9, 10, 12, 13, 20, 21, 99, 100, Integer.MAX_VALUE};
    private static final List<Method> FACE = face();

    // A walk that seldom goes back gets to full parks, and one with two tenants alone to banned ones.
    private final boolean seldomBack;
    private final boolean twoTenants;
    private long seed;
    private final BenchBroker broker = new BenchBroker();
    private final Model model = new Model();

    private WalkTest(int number) {
        seed = number * 7919L + 17;
        seldomBack = number % 2 == 1;
        twoTenants = number % 4 == 3;
    }

    public static void main(String[] args) {
        for (int walk = 0; walk < WALKS; walk++) {
            int number = walk;
            Check.test("walk " + walk, () -> new WalkTest(number).walk());
        }
        Check.finish();
    }

    private static Map<String, String> kinds(String... lines) {
        Map<String, String> kinds = new HashMap<>();
        for (String line : lines) {
            kinds.put(line.substring(0, line.indexOf(' ')), line.substring(line.indexOf(' ') + 1));
        }
        return kinds;
    }

    private static List<Method> face() {
        List<Method> methods = new ArrayList<>();
        for (Method method : BenchBroker.class.getDeclaredMethods()) {
            if (Modifier.isPublic(method.getModifiers())) {
                methods.add(method);
            }
        }
        methods.sort(Comparator.comparing(Method::getName));
        return methods;
    }

    private static Method methodNamed(String name) {
        return FACE.stream().filter(m -> m.getName().equals(name)).findFirst().orElseThrow();
    }

    private int below(int bound) {
        seed = seed * 6364136223846793005L + 1442695040888963407L;
        return (int) ((seed >>> 33) % bound);
    }

    private void walk() {
        int calls = 0;
        while (calls < CALLS) {
            int kind = below(40);
            if (kind < 24) {
                compareOrSkip(methodNamed(CHANGES[below(CHANGES.length)]));
                calls++;
            } else if (kind < 39 || calls + LONGEST_TEXT + 5 > CALLS) {
                compareOrSkip(FACE.get(below(FACE.size())));
                calls++;
            } else {
                calls += typeAndExecute();
            }
        }
    }

    private void compareOrSkip(Method method) {
        String name = method.getName();
        boolean goesBack = name.equals("undo") || name.equals("restoreSnapshot");
        boolean full = twoTenants && name.equals("addTenant") && count("tenantCount") == 2;
        if (full || goesBack && seldomBack && below(12) > 0) {
            return;
        }
        int[] n = new int[3];
        for (int i = 0; i < method.getParameterCount(); i++) {
            n[i] = argument(KINDS.get(name).charAt(i));
        }
        compare(method, n);
    }

    /** An argument that its method mostly accepts. */
    private int argument(char kind) {
        if (below(40) == 0) {
            return EDGES[below(EDGES.length)];
        }
        switch (kind) {
            case 'b':
                return index(count("benchCount"));
            case 't':
                return index(count("tenantCount"));
            case 'f':
                return index(count("fountainCount"));
            case 'c':
                return below(6);
            case 'r':
                return 1 + below(20);
            case 'l':
                return 1 + below(9);
            case 'p':
                return 1 + below(below(3) == 0 ? 98 : 25);
            case 'm':
                return 1 + below(below(2) == 0 ? 12 : 2);
            case 'n':
                return below(20);
            default:
                return 28 + below(103);
        }
    }

    /** The model is asked, as the broker is called 512 times at most. */
    private int count(String name) {
        return (Integer) model.call(name, 0, 0, 0);
    }

    private int index(int count) {
        return count == 0 || below(10) == 0 ? below(count + 2) : below(count);
    }

    private void compare(Method method, int[] n) {
        Object want = Check.answerOf(() -> model.call(method.getName(), n[0], n[1], n[2]));
        Object got = Check.answerOf(() -> invoke(method, n));
        if (!Objects.equals(want, got)) {
            Check.wrong(method.getName() + " " + n[0] + " " + n[1] + " " + n[2] + " answers " + got + ", due is " + want);
        }
    }

    private Object invoke(Method method, int[] n) {
        Object[] arguments = new Object[method.getParameterCount()];
        for (int i = 0; i < arguments.length; i++) {
            arguments[i] = method.getParameterTypes()[i] == char.class ? (Object) (char) n[i] : (Object) n[i];
        }
        try {
            return method.invoke(broker, arguments);
        } catch (InvocationTargetException e) {
            if (e.getCause() instanceof RuntimeException) {
                throw (RuntimeException) e.getCause();
            }
            throw new IllegalStateException(e.getCause());
        } catch (IllegalAccessException e) {
            throw new IllegalStateException(e);
        }
    }

    private int typeAndExecute() {
        String text = commands();
        Method append = methodNamed("appendInput");
        for (int i = 0; i < text.length(); i++) {
            compare(append, new int[] {text.charAt(i), 0, 0});
        }
        for (String name : new String[] {"execute", "syntaxErrorOffset", "rejectionReason", "rejectionDetail",
            "causeReason"}) {
            compare(methodNamed(name), new int[3]);
        }
        return text.length() + 5;
    }

    private String commands() {
        StringBuilder text = new StringBuilder();
        int count = 1 + below(6);
        for (int i = 0; i < count; i++) {
            appendCommand(text.append(i == 0 ? "" : ";"));
        }
        if (below(4) == 0) {
            spoil(text);
        }
        // Most texts fit; a long one shows what a full input does.
        int longest = below(5) == 0 ? LONGEST_TEXT : 60;
        return text.length() <= longest ? text.toString() : text.substring(0, lastWhole(text, longest));
    }

    private int lastWhole(StringBuilder text, int longest) {
        int semicolon = text.lastIndexOf(";", longest);
        return semicolon < 0 || below(4) == 0 ? longest : semicolon;
    }

    private void appendCommand(StringBuilder text) {
        String command = COMMANDS[below(COMMANDS.length)];
        int blank = command.indexOf(' ');
        text.append(command, 0, blank);
        for (int i = blank + 1; i < command.length(); i++) {
            char kind = command.charAt(i);
            int number = argument(Character.toLowerCase(kind));
            text.append(' ').append(Math.floorMod(number, Character.isUpperCase(kind) ? 10 : 100));
        }
    }

    private void spoil(StringBuilder text) {
        String signs = " ;0123456789benchfountaigvlswrdmpqz";
        char sign = signs.charAt(below(signs.length()));
        int at = below(text.length());
        switch (below(4)) {
            case 0:
                text.setCharAt(at, sign);
                break;
            case 1:
                text.insert(at, sign);
                break;
            case 2:
                text.deleteCharAt(at);
                break;
            default:
                text.setLength(at);
        }
    }
}
