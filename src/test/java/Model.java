import java.util.ArrayDeque;
import java.util.ArrayList;
import java.util.Comparator;
import java.util.Deque;
import java.util.List;
import java.util.NoSuchElementException;
import java.util.regex.Matcher;
import java.util.regex.Pattern;

/** The document read a second time, with lists and copies and without a thought of cost; the walk compares with it. */
final class Model {
    private static final Pattern INPUT = Pattern.compile("COMMAND(;COMMAND)*".replace("COMMAND",
        "(bench \\d \\d \\d\\d?|fountain \\d \\d \\d|tenant \\d\\d?|give \\d \\d\\d?|lease \\d \\d \\d\\d?|end \\d"
        + "|renew \\d \\d\\d?|switch \\d|limit \\d\\d?|pass \\d\\d?)"));

    private static final class Bench {
        int row;
        int column;
        int base;
        Tenant tenant;
        int deposit;
        int months;
    }

    private static final class Fountain {
        int row;
        int column;
        int loudness;
        boolean on = true;
    }

    private static final class Tenant {
        int coins;
        int defaults;
    }

    private static final class Data {
        final List<Bench> benches = new ArrayList<>();
        final List<Fountain> fountains = new ArrayList<>();
        final List<Tenant> tenants = new ArrayList<>();
        int limit = 3;
        int month;
        int broker;
        int given;
        int defaulted;
        int terminated;
        int completed;

        Data copy() {
            Data copy = new Data();
            for (Tenant old : tenants) {
                Tenant t = new Tenant();
                t.coins = old.coins;
                t.defaults = old.defaults;
                copy.tenants.add(t);
            }
            for (Bench old : benches) {
                Bench b = new Bench();
                b.row = old.row;
                b.column = old.column;
                b.base = old.base;
                b.deposit = old.deposit;
                b.months = old.months;
                b.tenant = old.tenant == null ? null : copy.tenants.get(tenants.indexOf(old.tenant));
                copy.benches.add(b);
            }
            for (Fountain old : fountains) {
                Fountain f = new Fountain();
                f.row = old.row;
                f.column = old.column;
                f.loudness = old.loudness;
                f.on = old.on;
                copy.fountains.add(f);
            }
            copy.limit = limit;
            copy.month = month;
            copy.broker = broker;
            copy.given = given;
            copy.defaulted = defaulted;
            copy.terminated = terminated;
            copy.completed = completed;
            return copy;
        }

        int noise(int row, int column) {
            return fountains.stream().filter(f -> f.on)
                .mapToInt(f -> Math.max(0, f.loudness - 2 * Math.abs(f.row - row) - 2 * Math.abs(f.column - column)))
                .sum();
        }

        int rent(Bench b) {
            int rent = b.base - noise(b.row, b.column);
            return rent < 1 ? 1 : rent;
        }

        boolean quiet(Bench b) {
            return noise(b.row, b.column) <= limit;
        }
    }

    private Data data = new Data();
    private final Deque<Data> undo = new ArrayDeque<>();
    private Data snapshot;
    private String output = "";
    private String input = "";
    private Integer reason;
    private Integer detail;
    private Integer cause;
    private Integer syntaxError;

    private interface Action {
        Object act();
    }

    private static void index(boolean fine) {
        if (!fine) {
            throw new IndexOutOfBoundsException();
        }
    }

    private static void number(int number, int lowest, int highest) {
        if (number < lowest || number > highest) {
            throw new IllegalArgumentException();
        }
    }

    private static void element(boolean fine) {
        if (!fine) {
            throw new NoSuchElementException();
        }
    }

    private static void state(boolean fine) {
        if (!fine) {
            throw new IllegalStateException();
        }
    }

    private void reject(boolean applies, int why, int what) {
        if (applies) {
            reason = why;
            detail = what;
            cause = null;
            throw new UnsupportedOperationException();
        }
    }

    private Object change(Action action) {
        Data before = data.copy();
        Object answer = action.act();
        undo.addLast(before);
        if (undo.size() > 8) {
            undo.removeFirst();
        }
        return answer;
    }

    private static void cell(int row, int column) {
        index(row >= 0 && row <= 5 && column >= 0 && column <= 5);
    }

    private Bench bench(int bench) {
        index(bench >= 0 && bench < data.benches.size());
        return data.benches.get(bench);
    }

    private Bench let(int bench) {
        Bench b = bench(bench);
        element(b.tenant != null);
        return b;
    }

    private Fountain fountain(int fountain) {
        index(fountain >= 0 && fountain < data.fountains.size());
        return data.fountains.get(fountain);
    }

    private Tenant tenant(int tenant) {
        index(tenant >= 0 && tenant < data.tenants.size());
        return data.tenants.get(tenant);
    }

    private int holder(int row, int column) {
        for (Bench b : data.benches) {
            if (b.row == row && b.column == column) {
                return data.benches.indexOf(b);
            }
        }
        for (Fountain f : data.fountains) {
            if (f.row == row && f.column == column) {
                return 10 + data.fountains.indexOf(f);
            }
        }
        return -1;
    }

    private int benchOf(Tenant t) {
        for (Bench b : data.benches) {
            if (b.tenant == t) {
                return data.benches.indexOf(b);
            }
        }
        return -1;
    }

    // ---- changes

    private int addBench(int row, int column, int rent) {
        cell(row, column);
        number(rent, 1, 20);
        reject(data.benches.size() == 10, 1, 10);
        reject(holder(row, column) >= 0, 4, holder(row, column));
        Bench b = new Bench();
        b.row = row;
        b.column = column;
        b.base = rent;
        data.benches.add(b);
        return data.benches.size() - 1;
    }

    private int setRent(int bench, int rent) {
        Bench b = bench(bench);
        number(rent, 1, 20);
        int old = b.base;
        b.base = rent;
        return old;
    }

    private int addFountain(int row, int column, int loudness) {
        cell(row, column);
        number(loudness, 1, 9);
        reject(data.fountains.size() == 4, 2, 4);
        reject(holder(row, column) >= 0, 4, holder(row, column));
        Fountain f = new Fountain();
        f.row = row;
        f.column = column;
        f.loudness = loudness;
        data.fountains.add(f);
        return data.fountains.size() - 1;
    }

    private int setLoudness(int fountain, int loudness) {
        Fountain f = fountain(fountain);
        number(loudness, 1, 9);
        int old = f.loudness;
        f.loudness = loudness;
        return old;
    }

    private boolean switchFountain(int fountain) {
        Fountain f = fountain(fountain);
        f.on = !f.on;
        return f.on;
    }

    private int setNoiseLimit(int limit) {
        number(limit, 0, 20);
        int old = data.limit;
        data.limit = limit;
        return old;
    }

    private int addTenant(int coins) {
        number(coins, 0, 99);
        reject(data.tenants.size() == 8, 3, 8);
        Tenant t = new Tenant();
        t.coins = coins;
        data.given += coins;
        data.tenants.add(t);
        return data.tenants.size() - 1;
    }

    private int giveCoins(int tenant, int coins) {
        Tenant t = tenant(tenant);
        number(coins, 1, 99);
        t.coins += coins;
        data.given += coins;
        return t.coins;
    }

    private void rejectLease(Tenant t, Bench b) {
        reject(t.defaults == 3, 5, data.tenants.indexOf(t));
        reject(benchOf(t) >= 0, 6, benchOf(t));
        reject(b.tenant != null, 7, data.tenants.indexOf(b.tenant));
        reject(!data.quiet(b), 8, data.noise(b.row, b.column));
        reject(t.coins < data.rent(b), 9, t.coins);
    }

    private int lease(int tenant, int bench, int months) {
        Tenant t = tenant(tenant);
        Bench b = bench(bench);
        number(months, 1, 12);
        rejectLease(t, b);
        b.tenant = t;
        b.deposit = data.rent(b);
        b.months = months;
        t.coins -= b.deposit;
        return b.deposit;
    }

    private int endLease(int bench) {
        Bench b = bench(bench);
        reject(b.tenant == null, 10, bench);
        int back = b.deposit / 2;
        b.tenant.coins += back;
        data.broker += b.deposit - back;
        b.tenant = null;
        return back;
    }

    private int renew(int bench, int months) {
        Bench b = bench(bench);
        number(months, 1, 12);
        reject(b.tenant == null, 10, bench);
        reject(b.months + months > 12, 11, b.months);
        b.months += months;
        return b.months;
    }

    private int passMonths(int months) {
        number(months, 1, 12);
        int before = data.defaulted + data.terminated + data.completed;
        for (int i = 0; i < months; i++) {
            data.benches.stream().filter(b -> b.tenant != null).forEach(this::passMonth);
            data.month++;
        }
        return data.defaulted + data.terminated + data.completed - before;
    }

    private void passMonth(Bench b) {
        if (!data.quiet(b)) {
            b.tenant.coins += b.deposit;
            b.tenant = null;
            data.terminated++;
        } else if (b.tenant.coins < data.rent(b)) {
            data.broker += b.deposit;
            b.tenant.defaults++;
            b.tenant = null;
            data.defaulted++;
        } else {
            b.tenant.coins -= data.rent(b);
            data.broker += data.rent(b);
            b.months--;
            if (b.months == 0) {
                b.tenant.coins += b.deposit;
                b.tenant = null;
                data.completed++;
            }
        }
    }

    private int execute() {
        String text = input;
        input = "";
        if (!INPUT.matcher(text).matches()) {
            syntaxError = syntaxErrorOf(text);
            throw new IllegalArgumentException();
        }
        Data before = data;
        data = data.copy();
        String[] commands = text.split(";");
        int number = 0;
        try {
            for (String command : commands) {
                command(command.split(" "));
                number++;
            }
        } catch (UnsupportedOperationException e) {
            data = before;
            int why = reason;
            reason = 12;
            detail = number;
            cause = why;
            throw e;
        } catch (IndexOutOfBoundsException | IllegalArgumentException e) {
            data = before;
            throw new IllegalStateException();
        }
        undo.addLast(before);
        if (undo.size() > 8) {
            undo.removeFirst();
        }
        return commands.length;
    }

    /** A prefix can be continued if the matcher ran into its end while all of it still fitted. */
    private static int syntaxErrorOf(String text) {
        for (int end = 1; end <= text.length(); end++) {
            Matcher matcher = INPUT.matcher(text.substring(0, end));
            if (!matcher.matches() && !matcher.hitEnd()) {
                return end - 1;
            }
        }
        return text.length();
    }

    private void command(String[] words) {
        int[] n = new int[4];
        for (int i = 1; i < words.length; i++) {
            n[i] = Integer.parseInt(words[i]);
        }
        switch (words[0]) {
            case "bench" -> addBench(n[1], n[2], n[3]);
            case "fountain" -> addFountain(n[1], n[2], n[3]);
            case "tenant" -> addTenant(n[1]);
            case "give" -> giveCoins(n[1], n[2]);
            case "lease" -> lease(n[1], n[2], n[3]);
            case "end" -> endLease(n[1]);
            case "renew" -> renew(n[1], n[2]);
            case "switch" -> switchFountain(n[1]);
            case "limit" -> setNoiseLimit(n[1]);
            default -> passMonths(n[1]);
        }
    }

    // ---- questions

    private boolean canLease(int tenant, int bench) {
        Tenant t = tenant(tenant);
        Bench b = bench(bench);
        Integer[] kept = {reason, detail, cause};
        try {
            rejectLease(t, b);
            return true;
        } catch (UnsupportedOperationException e) {
            return false;
        } finally {
            reason = kept[0];
            detail = kept[1];
            cause = kept[2];
        }
    }

    private int cheapestFor(int tenant) {
        tenant(tenant);
        return data.benches.stream().filter(b -> canLease(tenant, data.benches.indexOf(b)))
            .min(Comparator.comparingInt(b -> data.rent(b))).map(b -> data.benches.indexOf(b)).orElseThrow();
    }

    private int defaultMonth(int bench) {
        let(bench);
        Data kept = data;
        data = data.copy();
        try {
            Bench b = data.benches.get(bench);
            Tenant t = b.tenant;
            for (int month = 1; month <= 12; month++) {
                passMonths(1);
                if (t.defaults > kept.tenants.get(data.tenants.indexOf(t)).defaults) {
                    return month;
                }
            }
            throw new NoSuchElementException();
        } finally {
            data = kept;
        }
    }

    private int income(int months) {
        number(months, 1, 12);
        Data kept = data;
        data = data.copy();
        passMonths(months);
        int income = data.broker - kept.broker;
        data = kept;
        return income;
    }

    private int allCoins() {
        return data.tenants.stream().mapToInt(t -> t.coins).sum() + depositTotal() + data.broker;
    }

    private int depositTotal() {
        return data.benches.stream().filter(b -> b.tenant != null).mapToInt(b -> b.deposit).sum();
    }

    private int benchByRent(int position) {
        element(position >= 0 && position < data.benches.size());
        List<Bench> sorted = new ArrayList<>(data.benches);
        sorted.sort(Comparator.<Bench>comparingInt(b -> data.rent(b)).thenComparing(b -> b.tenant != null));
        return data.benches.indexOf(sorted.get(position));
    }

    private int tenantByCoins(int position) {
        element(position >= 0 && position < data.tenants.size());
        List<Tenant> sorted = new ArrayList<>(data.tenants);
        sorted.sort(Comparator.<Tenant>comparingInt(t -> -t.coins).thenComparingInt(t -> t.defaults));
        return data.tenants.indexOf(sorted.get(position));
    }

    private double meanRent() {
        if (data.benches.isEmpty()) {
            throw new ArithmeticException();
        }
        return data.benches.stream().mapToInt(b -> data.rent(b)).average().getAsDouble();
    }

    private float letShare() {
        if (data.benches.isEmpty()) {
            throw new ArithmeticException();
        }
        return (float) data.benches.stream().filter(b -> b.tenant != null).count() / (float) data.benches.size();
    }

    private int writeBench(int bench) {
        Bench b = bench(bench);
        output = bench + "@" + b.row + "," + b.column + "$" + data.rent(b) + "~" + data.noise(b.row, b.column);
        if (b.tenant != null) {
            output += "=" + data.tenants.indexOf(b.tenant) + "/" + b.months;
        }
        return output.length();
    }

    private int writeRow(int row) {
        cell(row, 0);
        output = "";
        for (int column = 0; column < 6; column++) {
            int holder = holder(row, column);
            output += holder < 0 ? "." : holder < 10 ? "" + holder : data.fountains.get(holder - 10).on ? "F" : "f";
        }
        return 6;
    }

    private char outputAt(int index) {
        index(index >= 0 && index < output.length());
        return output.charAt(index);
    }

    private int appendInput(char character) {
        number(character, 32, 126);
        state(input.length() < 60);
        input += character;
        return input.length();
    }

    private int element(Integer value) {
        element(value != null);
        return value;
    }

    private int undo() {
        state(!undo.isEmpty());
        data = undo.removeLast();
        return undo.size();
    }

    private int restore() {
        state(snapshot != null);
        data = snapshot.copy();
        undo.clear();
        return data.benches.size();
    }

    private int save() {
        snapshot = data.copy();
        return data.benches.size();
    }

    /** Calls a method by its name, as the walk does. */
    Object call(String name, int a, int b, int c) {
        return switch (name) {
            case "addBench" -> change(() -> addBench(a, b, c));
            case "setRent" -> change(() -> setRent(a, b));
            case "addFountain" -> change(() -> addFountain(a, b, c));
            case "setLoudness" -> change(() -> setLoudness(a, b));
            case "switchFountain" -> change(() -> switchFountain(a));
            case "setNoiseLimit" -> change(() -> setNoiseLimit(a));
            case "addTenant" -> change(() -> addTenant(a));
            case "giveCoins" -> change(() -> giveCoins(a, b));
            case "lease" -> change(() -> lease(a, b, c));
            case "endLease" -> change(() -> endLease(a));
            case "renew" -> change(() -> renew(a, b));
            case "passMonths" -> change(() -> passMonths(a));
            case "execute" -> execute();
            default -> question(name, a, b);
        };
    }

    private Object question(String name, int a, int b) {
        return switch (name) {
            case "benchCount" -> data.benches.size();
            case "rowOf" -> bench(a).row;
            case "columnOf" -> bench(a).column;
            case "baseRent" -> bench(a).base;
            case "rentOf" -> data.rent(bench(a));
            case "fountainCount" -> data.fountains.size();
            case "loudnessOf" -> fountain(a).loudness;
            case "isRunning" -> fountain(a).on;
            case "noiseLimit" -> data.limit;
            case "noiseAt", "noiseBySpreading" -> noise(a, b);
            case "isQuiet" -> data.quiet(bench(a));
            case "quietCount" -> (int) data.benches.stream().filter(data::quiet).count();
            case "tenantCount" -> data.tenants.size();
            case "coinsOf" -> tenant(a).coins;
            case "defaultsOf" -> tenant(a).defaults;
            case "benchOf" -> positive(benchOf(tenant(a)));
            case "canLease" -> canLease(a, b);
            case "cheapestFor" -> cheapestFor(a);
            case "isLet" -> bench(a).tenant != null;
            case "tenantOf" -> data.tenants.indexOf(let(a).tenant);
            case "depositOf" -> let(a).deposit;
            case "monthsLeft" -> let(a).months;
            case "defaultMonth" -> defaultMonth(a);
            case "month" -> data.month;
            case "incomeWithin", "incomeByLeases" -> income(a);
            default -> total(name, a);
        };
    }

    private Object total(String name, int a) {
        return switch (name) {
            case "brokerCoins" -> data.broker;
            case "depositTotal" -> depositTotal();
            case "allCoins" -> allCoins();
            case "allCoinsGiven" -> data.given;
            case "defaultedLeases" -> data.defaulted;
            case "terminatedLeases" -> data.terminated;
            case "completedLeases" -> data.completed;
            case "benchByRent" -> benchByRent(a);
            case "tenantByCoins" -> tenantByCoins(a);
            case "meanRent" -> meanRent();
            case "letShare" -> letShare();
            case "isConsistent" -> true;
            case "writeBench" -> writeBench(a);
            case "writeRow" -> writeRow(a);
            case "outputAt" -> outputAt(a);
            case "appendInput" -> appendInput((char) a);
            case "syntaxErrorOffset" -> element(syntaxError);
            case "rejectionReason" -> element(reason);
            case "rejectionDetail" -> element(detail);
            case "causeReason" -> element(cause);
            case "undo" -> undo();
            case "saveSnapshot" -> save();
            case "restoreSnapshot" -> restore();
            default -> throw new IllegalArgumentException("no method " + name);
        };
    }

    private int noise(int row, int column) {
        cell(row, column);
        return data.noise(row, column);
    }

    private static int positive(int index) {
        element(index >= 0);
        return index;
    }
}
