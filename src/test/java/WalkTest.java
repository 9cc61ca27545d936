import java.lang.reflect.InvocationTargetException;
import java.lang.reflect.Method;
import java.util.ArrayList;
import java.util.Comparator;
import java.util.List;
import java.util.Objects;

/** Long walks through all calls, each answer compared with the model's. The steps come from a counted sequence. */
public final class WalkTest {
    private static final int WALKS = 1500;
    private static final int CALLS = 512;
    private static final int LONGEST_TEXT = 62;
    private static final String[] CHANGES = {"addBench", "setRent", "addFountain", "setLoudness", "switchFountain",
        "setNoiseLimit", "addTenant", "giveCoins", "lease", "lease", "lease", "endLease", "renew", "passMonths",
        "passMonths", "undo", "saveSnapshot", "restoreSnapshot"};
    private static final String[] WORDS = {"bench ", "fountain ", "tenant ", "give ", "lease ", "end ", "renew ",
        "switch ", "limit ", "pass "};
    private static final int[] DIGITS = {2, 3, 0, 1, 2, 1, 1, 1, 0, 0};
    private static final boolean[] NUMBER = {true, false, true, true, true, false, true, false, true, true};
    private static final int[] EDGES = {Integer.MIN_VALUE, -1, 0, 6, 10, 12, 13, 20, 21, 99, 100, Integer.MAX_VALUE};
    private static final List<Method> FACE = face();

    // A walk that seldom goes back gets to banned tenants and full parks.
    private final boolean seldomBack;
    private long seed;
    private BenchBroker broker = new BenchBroker();
    private Model model = new Model();

    private WalkTest(long seed) {
        this.seed = seed * 7919 + 17;
        this.seldomBack = seed % 2 == 1;
    }

    public static void main(String[] args) {
        for (int walk = 0; walk < WALKS; walk++) {
            int number = walk;
            Check.test("walk " + walk, () -> new WalkTest(number).walk());
        }
        Check.finish();
    }

    private static List<Method> face() {
        List<Method> methods = new ArrayList<>();
        for (Method method : BenchBroker.class.getDeclaredMethods()) {
            if (java.lang.reflect.Modifier.isPublic(method.getModifiers())) {
                methods.add(method);
            }
        }
        methods.sort(Comparator.comparing(Method::getName));
        return methods;
    }

    private int below(int bound) {
        seed = seed * 6364136223846793005L + 1442695040888963407L;
        return (int) ((seed >>> 33) % bound);
    }

    private void walk() {
        int calls = 0;
        while (calls < CALLS) {
            int kind = below(10);
            if (kind < 5) {
                compareOrSkip(methodNamed(CHANGES[below(CHANGES.length)]));
                calls++;
            } else if (kind < 9 || calls + LONGEST_TEXT + 5 > CALLS) {
                compareOrSkip(FACE.get(below(FACE.size())));
                calls++;
            } else {
                calls += typeAndExecute();
            }
        }
    }

    private static Method methodNamed(String name) {
        return FACE.stream().filter(m -> m.getName().equals(name)).findFirst().orElseThrow();
    }

    /** The next argument, mostly one that its method accepts. */
    private int argument(Method method, int position) {
        if (below(25) == 0) {
            return EDGES[below(EDGES.length)];
        }
        String name = method.getName();
        boolean last = position == method.getParameterCount() - 1;
        if (name.equals("addTenant") || name.equals("giveCoins") && last) {
            return 1 + below(below(3) == 0 ? 98 : 12);
        }
        if (name.endsWith("Months") || name.startsWith("income")) {
            return 1 + below(below(2) == 0 ? 12 : 2);
        }
        if (last && (name.equals("lease") || name.equals("renew"))) {
            return 1 + below(12);
        }
        if (last && (name.equals("addBench") || name.equals("setRent"))) {
            return 1 + below(20);
        }
        if (last && name.endsWith("ountain") || last && name.equals("setLoudness")) {
            return name.equals("switchFountain") ? below(4) : 1 + below(9);
        }
        return name.equals("setNoiseLimit") || name.equals("outputAt") ? below(20) : below(6);
    }

    private void compareOrSkip(Method method) {
        boolean goesBack = method.getName().equals("undo") || method.getName().equals("restoreSnapshot");
        if (!goesBack || !seldomBack || below(12) == 0) {
            compare(method);
        }
    }

    private void compare(Method method) {
        int[] n = new int[3];
        for (int i = 0; i < method.getParameterCount(); i++) {
            n[i] = argument(method, i);
        }
        if (method.getName().equals("appendInput")) {
            n[0] = 28 + below(103);
        }
        compare(method, n);
    }

    private void compare(Method method, int[] n) {
        Object want = Check.answerOf(() -> model.call(method.getName(), n[0], n[1], n[2]));
        Object got = Check.answerOf(() -> invoke(method, n));
        if (!Objects.equals(want, got)) {
            Check.wrong(method.getName() + " " + n[0] + " " + n[1] + " " + n[2] + " answers " + got + ", due is " + want);
        }
    }

    private Object invoke(Method method, int[] n) {
        Object[] arguments = new Object[method.getParameterCount()];
        for (int i = 0; i < arguments.length; i++) {
            arguments[i] = method.getParameterTypes()[i] == char.class ? (Object) (char) n[i] : (Object) n[i];
        }
        try {
            return method.invoke(broker, arguments);
        } catch (InvocationTargetException e) {
            if (e.getCause() instanceof RuntimeException) {
                throw (RuntimeException) e.getCause();
            }
            throw new IllegalStateException(e.getCause());
        } catch (IllegalAccessException e) {
            throw new IllegalStateException(e);
        }
    }

    private int typeAndExecute() {
        String text = commands();
        Method append = methodNamed("appendInput");
        for (int i = 0; i < text.length(); i++) {
            compare(append, new int[] {text.charAt(i), 0, 0});
        }
        compare(methodNamed("execute"), new int[3]);
        String[] after = {"syntaxErrorOffset", "rejectionReason", "rejectionDetail", "causeReason"};
        for (String name : after) {
            compare(methodNamed(name), new int[3]);
        }
        return text.length() + 5;
    }

    private String commands() {
        StringBuilder text = new StringBuilder();
        int count = 1 + below(6);
        for (int i = 0; i < count; i++) {
            appendCommand(text.append(i == 0 ? "" : ";"));
        }
        if (below(3) == 0) {
            spoil(text);
        }
        return text.length() > LONGEST_TEXT ? text.substring(0, LONGEST_TEXT) : text.toString();
    }

    private void appendCommand(StringBuilder text) {
        int word = below(WORDS.length);
        text.append(WORDS[word]);
        for (int i = 0; i < DIGITS[word]; i++) {
            text.append(i == 0 ? "" : " ").append(below(below(4) == 0 ? 10 : 4));
        }
        if (NUMBER[word]) {
            text.append(DIGITS[word] == 0 ? "" : " ").append(below(3) == 0 ? below(100) : below(13));
        }
    }

    private void spoil(StringBuilder text) {
        String signs = " ;0123456789benchfountaigvlswrdmpqz";
        char sign = signs.charAt(below(signs.length()));
        int at = below(text.length());
        switch (below(4)) {
            case 0 -> text.setCharAt(at, sign);
            case 1 -> text.insert(at, sign);
            case 2 -> text.deleteCharAt(at);
            default -> text.setLength(at);
        }
    }
}
