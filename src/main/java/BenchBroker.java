import java.util.Arrays;
import java.util.NoSuchElementException;

/** A broker who lets quiet benches in a park; the promises of ../shared/DOC.md say what each call does. */
public final class BenchBroker {
    public static final int BENCH_LIMIT = 1;
    public static final int FOUNTAIN_LIMIT = 2;
    public static final int TENANT_LIMIT = 3;
    public static final int CELL_TAKEN = 4;
    public static final int BANNED = 5;
    public static final int HAS_LEASE = 6;
    public static final int LET = 7;
    public static final int LOUD = 8;
    public static final int TOO_POOR = 9;
    public static final int NOT_LET = 10;
    public static final int TERM_LIMIT = 11;
    public static final int COMMAND_REJECTED = 12;

    private static final int SIDE = 6;
    private static final int MOST_BENCHES = 10;
    private static final int MOST_FOUNTAINS = 4;
    private static final int MOST_TENANTS = 8;
    private static final int HIGHEST_RENT = 20;
    private static final int HIGHEST_LOUDNESS = 9;
    private static final int HIGHEST_NOISE_LIMIT = 20;
    private static final int FIRST_NOISE_LIMIT = 3;
    private static final int SOUND_LOST_A_STEP = 2;
    private static final int MOST_COINS_AT_ONCE = 99;
    private static final int LONGEST_TERM = 12;
    private static final int DEFAULTS_TO_BAN = 3;
    private static final int UNDO_DEPTH = 8;
    private static final int INPUT_SIZE = 60;
    private static final int LOWEST_CODE = 32;
    private static final int HIGHEST_CODE = 126;
    private static final int NO_REASON = 0;
    private static final int NONE = -1;

    private final Books books = new Books();
    // Every change is tried here first, so that a failing call leaves the books alone.
    private final Books trial = new Books();
    private final History history = new History();
    private final Books snapshot = new Books();
    private boolean hasSnapshot = false;
    private final Outcome outcome = new Outcome();
    private final NoiseMap noiseMap = new NoiseMap();
    private final Input input = new Input();
    private final StringBuilder output = new StringBuilder();
    private int latestReason = NO_REASON;
    private int latestDetail = 0;
    private int latestCause = NO_REASON;
    private int latestSyntaxError = NONE;

    public BenchBroker() {
    }

    // ---- benches and fountains

    public int addBench(int row, int column, int rent)
            throws IndexOutOfBoundsException, IllegalArgumentException, UnsupportedOperationException {
        startChange();
        trial.park.placeBench(row, column, rent, outcome);
        return finishChange();
    }

    public int setRent(int bench, int rent) throws IndexOutOfBoundsException, IllegalArgumentException {
        startChange();
        trial.park.changeRent(bench, rent, outcome);
        return finishChange();
    }

    public int addFountain(int row, int column, int loudness)
            throws IndexOutOfBoundsException, IllegalArgumentException, UnsupportedOperationException {
        startChange();
        trial.park.placeFountain(row, column, loudness, outcome);
        return finishChange();
    }

    public int setLoudness(int fountain, int loudness) throws IndexOutOfBoundsException, IllegalArgumentException {
        startChange();
        trial.park.changeLoudness(fountain, loudness, outcome);
        return finishChange();
    }

    public boolean switchFountain(int fountain) throws IndexOutOfBoundsException {
        startChange();
        trial.park.toggle(fountain, outcome);
        return finishChange() == 1;
    }

    public int setNoiseLimit(int limit) throws IllegalArgumentException {
        startChange();
        trial.park.changeLimit(limit, outcome);
        return finishChange();
    }

    public int benchCount() {
        return books.park.benchTotal;
    }

    public int rowOf(int bench) throws IndexOutOfBoundsException {
        needBench(bench);
        return books.park.benchRow[bench];
    }

    public int columnOf(int bench) throws IndexOutOfBoundsException {
        needBench(bench);
        return books.park.benchColumn[bench];
    }

    public int baseRent(int bench) throws IndexOutOfBoundsException {
        needBench(bench);
        return books.park.benchBaseRent[bench];
    }

    public int rentOf(int bench) throws IndexOutOfBoundsException {
        needBench(bench);
        return books.park.rent(bench);
    }

    public int fountainCount() {
        return books.park.fountainTotal;
    }

    public int loudnessOf(int fountain) throws IndexOutOfBoundsException {
        needFountain(fountain);
        return books.park.fountainLoudness[fountain];
    }

    public boolean isRunning(int fountain) throws IndexOutOfBoundsException {
        needFountain(fountain);
        return books.park.fountainRuns[fountain];
    }

    public int noiseLimit() {
        return books.park.limit;
    }

    public int noiseAt(int row, int column) throws IndexOutOfBoundsException {
        needCell(row, column);
        return books.park.noise(row, column);
    }

    public int noiseBySpreading(int row, int column) throws IndexOutOfBoundsException {
        needCell(row, column);
        noiseMap.spreadAll(books.park);
        return noiseMap.total[row * SIDE + column];
    }

    public boolean isQuiet(int bench) throws IndexOutOfBoundsException {
        needBench(bench);
        return books.park.quiet(bench);
    }

    public int quietCount() {
        int count = 0;
        for (int bench = 0; bench < books.park.benchTotal; bench++) {
            if (books.park.quiet(bench)) {
                count++;
            }
        }
        return count;
    }

    // ---- tenants

    public int addTenant(int coins) throws IllegalArgumentException, UnsupportedOperationException {
        startChange();
        trial.enrol(coins, outcome);
        return finishChange();
    }

    public int giveCoins(int tenant, int coins) throws IndexOutOfBoundsException, IllegalArgumentException {
        startChange();
        trial.endow(tenant, coins, outcome);
        return finishChange();
    }

    public int tenantCount() {
        return books.tenantTotal;
    }

    public int coinsOf(int tenant) throws IndexOutOfBoundsException {
        needTenant(tenant);
        return books.coins[tenant];
    }

    public int defaultsOf(int tenant) throws IndexOutOfBoundsException {
        needTenant(tenant);
        return books.defaults[tenant];
    }

    public int benchOf(int tenant) throws IndexOutOfBoundsException, NoSuchElementException {
        needTenant(tenant);
        int bench = books.leasedBench(tenant);
        if (bench == NONE) {
            throw new NoSuchElementException();
        }
        return bench;
    }

    public boolean canLease(int tenant, int bench) throws IndexOutOfBoundsException {
        needTenant(tenant);
        needBench(bench);
        return books.leaseObstacle(tenant, bench) == NO_REASON;
    }

    public int cheapestFor(int tenant) throws IndexOutOfBoundsException, NoSuchElementException {
        needTenant(tenant);
        int cheapest = books.cheapestBench(tenant);
        if (cheapest == NONE) {
            throw new NoSuchElementException();
        }
        return cheapest;
    }

    // ---- leases

    public int lease(int tenant, int bench, int months)
            throws IndexOutOfBoundsException, IllegalArgumentException, UnsupportedOperationException {
        startChange();
        trial.sign(tenant, bench, months, outcome);
        return finishChange();
    }

    public int endLease(int bench) throws IndexOutOfBoundsException, UnsupportedOperationException {
        startChange();
        trial.breakOff(bench, outcome);
        return finishChange();
    }

    public int renew(int bench, int months)
            throws IndexOutOfBoundsException, IllegalArgumentException, UnsupportedOperationException {
        startChange();
        trial.extend(bench, months, outcome);
        return finishChange();
    }

    public boolean isLet(int bench) throws IndexOutOfBoundsException {
        needBench(bench);
        return books.leased(bench);
    }

    public int tenantOf(int bench) throws IndexOutOfBoundsException, NoSuchElementException {
        needLease(bench);
        return books.leaseTenant[bench];
    }

    public int depositOf(int bench) throws IndexOutOfBoundsException, NoSuchElementException {
        needLease(bench);
        return books.leaseDeposit[bench];
    }

    public int monthsLeft(int bench) throws IndexOutOfBoundsException, NoSuchElementException {
        needLease(bench);
        return books.leaseMonths[bench];
    }

    public int defaultMonth(int bench) throws IndexOutOfBoundsException, NoSuchElementException {
        needLease(bench);
        int paid = books.payableMonths(bench);
        if (!books.park.quiet(bench) || paid >= books.leaseMonths[bench]) {
            throw new NoSuchElementException();
        }
        return paid + 1;
    }

    // ---- months

    public int passMonths(int months) throws IllegalArgumentException {
        startChange();
        trial.elapse(months, outcome);
        return finishChange();
    }

    public int month() {
        return books.monthsPassed;
    }

    public int incomeWithin(int months) throws IllegalArgumentException {
        needTerm(months);
        return incomeOnCopy(months);
    }

    public int incomeByLeases(int months) throws IllegalArgumentException {
        needTerm(months);
        return books.leaseIncome(months);
    }

    // ---- totals and orders

    public int brokerCoins() {
        return books.brokerPurse;
    }

    public int depositTotal() {
        return books.deposits();
    }

    public int allCoins() {
        return books.coinsAround();
    }

    public int allCoinsGiven() {
        return books.coinsGiven;
    }

    public int defaultedLeases() {
        return books.defaulted;
    }

    public int terminatedLeases() {
        return books.terminated;
    }

    public int completedLeases() {
        return books.completed;
    }

    public int benchByRent(int position) throws NoSuchElementException {
        for (int bench = 0; bench < books.park.benchTotal; bench++) {
            if (books.benchesAhead(bench) == position) {
                return bench;
            }
        }
        throw new NoSuchElementException();
    }

    public int tenantByCoins(int position) throws NoSuchElementException {
        for (int tenant = 0; tenant < books.tenantTotal; tenant++) {
            if (books.tenantsAhead(tenant) == position) {
                return tenant;
            }
        }
        throw new NoSuchElementException();
    }

    public double meanRent() throws ArithmeticException {
        int count = books.park.benchTotal;
        if (count == 0) {
            throw new ArithmeticException();
        }
        int sum = 0;
        for (int bench = 0; bench < count; bench++) {
            sum += books.park.rent(bench);
        }
        return (double) sum / (double) count;
    }

    public float letShare() throws ArithmeticException {
        int count = books.park.benchTotal;
        if (count == 0) {
            throw new ArithmeticException();
        }
        int let = 0;
        for (int bench = 0; bench < count; bench++) {
            if (books.leased(bench)) {
                let++;
            }
        }
        return (float) let / (float) count;
    }

    public boolean isConsistent() {
        return noisesAgree()
                && incomesAgree(1)
                && incomesAgree(6)
                && incomesAgree(12)
                && books.coinsAround() == books.coinsGiven
                && !books.someTenantHasTwoBenches();
    }

    // ---- text output

    public int writeBench(int bench) throws IndexOutOfBoundsException {
        needBench(bench);
        Park park = books.park;
        int row = park.benchRow[bench];
        int column = park.benchColumn[bench];
        output.setLength(0);
        output.append(bench).append('@').append(row).append(',').append(column);
        output.append('$').append(park.rent(bench)).append('~').append(park.noise(row, column));
        if (books.leased(bench)) {
            output.append('=').append(books.leaseTenant[bench]).append('/').append(books.leaseMonths[bench]);
        }
        return output.length();
    }

    public int writeRow(int row) throws IndexOutOfBoundsException {
        needCell(row, 0);
        output.setLength(0);
        for (int column = 0; column < SIDE; column++) {
            output.append(books.park.signAt(row, column));
        }
        return output.length();
    }

    public char outputAt(int index) throws IndexOutOfBoundsException {
        if (index < 0 || index >= output.length()) {
            throw new IndexOutOfBoundsException();
        }
        return output.charAt(index);
    }

    // ---- commands

    public int appendInput(char character) throws IllegalArgumentException, IllegalStateException {
        if (character < LOWEST_CODE || character > HIGHEST_CODE) {
            throw new IllegalArgumentException();
        }
        if (input.length >= INPUT_SIZE) {
            throw new IllegalStateException();
        }
        input.text[input.length] = character;
        input.length++;
        return input.length;
    }

    public int execute() throws IllegalArgumentException, IllegalStateException, UnsupportedOperationException {
        int count = input.countCommands();
        if (count == NONE) {
            latestSyntaxError = input.position;
            input.length = 0;
            throw new IllegalArgumentException();
        }
        int failing = tryCommands(count);
        input.length = 0;
        if (failing == NONE) {
            keepTrial();
            return count;
        }
        if (outcome.result != Outcome.REJECTED) {
            throw new IllegalStateException();
        }
        keepRejection(COMMAND_REJECTED, failing, outcome.reason);
        throw new UnsupportedOperationException();
    }

    public int syntaxErrorOffset() throws NoSuchElementException {
        if (latestSyntaxError == NONE) {
            throw new NoSuchElementException();
        }
        return latestSyntaxError;
    }

    // ---- rejections and history

    public int rejectionReason() throws NoSuchElementException {
        if (latestReason == NO_REASON) {
            throw new NoSuchElementException();
        }
        return latestReason;
    }

    public int rejectionDetail() throws NoSuchElementException {
        if (latestReason == NO_REASON) {
            throw new NoSuchElementException();
        }
        return latestDetail;
    }

    public int causeReason() throws NoSuchElementException {
        if (latestReason != COMMAND_REJECTED) {
            throw new NoSuchElementException();
        }
        return latestCause;
    }

    public int undo() throws IllegalStateException {
        if (history.size == 0) {
            throw new IllegalStateException();
        }
        history.takeBack(books);
        return history.size;
    }

    public int saveSnapshot() {
        snapshot.copyFrom(books);
        hasSnapshot = true;
        return books.park.benchTotal;
    }

    public int restoreSnapshot() throws IllegalStateException {
        if (!hasSnapshot) {
            throw new IllegalStateException();
        }
        books.copyFrom(snapshot);
        history.size = 0;
        return books.park.benchTotal;
    }

    // ---- what the calls share

    private void needCell(int row, int column) {
        if (!Park.hasCell(row, column)) {
            throw new IndexOutOfBoundsException();
        }
    }

    private void needBench(int bench) {
        if (!books.park.hasBench(bench)) {
            throw new IndexOutOfBoundsException();
        }
    }

    private void needFountain(int fountain) {
        if (!books.park.hasFountain(fountain)) {
            throw new IndexOutOfBoundsException();
        }
    }

    private void needTenant(int tenant) {
        if (!books.hasTenant(tenant)) {
            throw new IndexOutOfBoundsException();
        }
    }

    private void needLease(int bench) {
        needBench(bench);
        if (!books.leased(bench)) {
            throw new NoSuchElementException();
        }
    }

    private void needTerm(int months) {
        if (!Books.isTerm(months)) {
            throw new IllegalArgumentException();
        }
    }

    private void startChange() {
        trial.copyFrom(books);
    }

    private int finishChange() {
        if (outcome.result == Outcome.NO_SUCH_INDEX) {
            throw new IndexOutOfBoundsException();
        }
        if (outcome.result == Outcome.WRONG_NUMBER) {
            throw new IllegalArgumentException();
        }
        if (outcome.result == Outcome.REJECTED) {
            keepRejection(outcome.reason, outcome.detail, NO_REASON);
            throw new UnsupportedOperationException();
        }
        keepTrial();
        return outcome.value;
    }

    private void keepTrial() {
        history.remember(books);
        books.copyFrom(trial);
    }

    private void keepRejection(int reason, int detail, int cause) {
        latestReason = reason;
        latestDetail = detail;
        latestCause = cause;
    }

    /** Answers the number of the first command that fails, or NONE; the outcome tells why it fails. */
    private int tryCommands(int count) {
        trial.copyFrom(books);
        input.position = 0;
        for (int command = 0; command < count; command++) {
            input.readCommand();
            input.readSign(';');
            tryCommand(input.verb, input.arguments[0], input.arguments[1], input.arguments[2]);
            if (outcome.result != Outcome.DONE) {
                return command;
            }
        }
        return NONE;
    }

    private void tryCommand(Verb verb, int first, int second, int third) {
        switch (verb) {
            case BENCH:
                trial.park.placeBench(first, second, third, outcome);
                break;
            case FOUNTAIN:
                trial.park.placeFountain(first, second, third, outcome);
                break;
            case TENANT:
                trial.enrol(first, outcome);
                break;
            case GIVE:
                trial.endow(first, second, outcome);
                break;
            case LEASE:
                trial.sign(first, second, third, outcome);
                break;
            case END:
                trial.breakOff(first, outcome);
                break;
            case RENEW:
                trial.extend(first, second, outcome);
                break;
            case SWITCH:
                trial.park.toggle(first, outcome);
                break;
            case LIMIT:
                trial.park.changeLimit(first, outcome);
                break;
            case PASS:
                trial.elapse(first, outcome);
                break;
        }
    }

    private int incomeOnCopy(int months) {
        trial.copyFrom(books);
        trial.elapse(months, outcome);
        return trial.brokerPurse - books.brokerPurse;
    }

    private boolean incomesAgree(int months) {
        return incomeOnCopy(months) == books.leaseIncome(months);
    }

    private boolean noisesAgree() {
        noiseMap.spreadAll(books.park);
        for (int row = 0; row < SIDE; row++) {
            for (int column = 0; column < SIDE; column++) {
                if (books.park.noise(row, column) != noiseMap.total[row * SIDE + column]) {
                    return false;
                }
            }
        }
        return true;
    }

    /** How a change went. It stands in for exceptions, so that execute can try commands without catching any. */
    private static final class Outcome {
        static final int DONE = 0;
        static final int NO_SUCH_INDEX = 1;
        static final int WRONG_NUMBER = 2;
        static final int REJECTED = 3;

        int result = DONE;
        int value = 0;
        int reason = NO_REASON;
        int detail = 0;

        void succeed(int answer) {
            result = DONE;
            value = answer;
        }

        void missIndex() {
            result = NO_SUCH_INDEX;
        }

        void missNumber() {
            result = WRONG_NUMBER;
        }

        void reject(int why, int what) {
            result = REJECTED;
            reason = why;
            detail = what;
        }
    }

    /** The benches, the fountains and their noise. */
    private static final class Park {
        int benchTotal = 0;
        final int[] benchRow = new int[MOST_BENCHES];
        final int[] benchColumn = new int[MOST_BENCHES];
        final int[] benchBaseRent = new int[MOST_BENCHES];
        int fountainTotal = 0;
        final int[] fountainRow = new int[MOST_FOUNTAINS];
        final int[] fountainColumn = new int[MOST_FOUNTAINS];
        final int[] fountainLoudness = new int[MOST_FOUNTAINS];
        final boolean[] fountainRuns = new boolean[MOST_FOUNTAINS];
        int limit = FIRST_NOISE_LIMIT;

        static boolean hasCell(int row, int column) {
            return row >= 0 && row < SIDE && column >= 0 && column < SIDE;
        }

        boolean hasBench(int bench) {
            return bench >= 0 && bench < benchTotal;
        }

        boolean hasFountain(int fountain) {
            return fountain >= 0 && fountain < fountainTotal;
        }

        void placeBench(int row, int column, int rent, Outcome outcome) {
            if (!hasCell(row, column)) {
                outcome.missIndex();
            } else if (rent < 1 || rent > HIGHEST_RENT) {
                outcome.missNumber();
            } else if (benchTotal >= MOST_BENCHES) {
                outcome.reject(BENCH_LIMIT, MOST_BENCHES);
            } else if (holder(row, column) != NONE) {
                outcome.reject(CELL_TAKEN, holder(row, column));
            } else {
                benchRow[benchTotal] = row;
                benchColumn[benchTotal] = column;
                benchBaseRent[benchTotal] = rent;
                benchTotal++;
                outcome.succeed(benchTotal - 1);
            }
        }

        void changeRent(int bench, int rent, Outcome outcome) {
            if (!hasBench(bench)) {
                outcome.missIndex();
            } else if (rent < 1 || rent > HIGHEST_RENT) {
                outcome.missNumber();
            } else {
                outcome.succeed(benchBaseRent[bench]);
                benchBaseRent[bench] = rent;
            }
        }

        void placeFountain(int row, int column, int loudness, Outcome outcome) {
            if (!hasCell(row, column)) {
                outcome.missIndex();
            } else if (loudness < 1 || loudness > HIGHEST_LOUDNESS) {
                outcome.missNumber();
            } else if (fountainTotal >= MOST_FOUNTAINS) {
                outcome.reject(FOUNTAIN_LIMIT, MOST_FOUNTAINS);
            } else if (holder(row, column) != NONE) {
                outcome.reject(CELL_TAKEN, holder(row, column));
            } else {
                fountainRow[fountainTotal] = row;
                fountainColumn[fountainTotal] = column;
                fountainLoudness[fountainTotal] = loudness;
                fountainRuns[fountainTotal] = true;
                fountainTotal++;
                outcome.succeed(fountainTotal - 1);
            }
        }

        void changeLoudness(int fountain, int loudness, Outcome outcome) {
            if (!hasFountain(fountain)) {
                outcome.missIndex();
            } else if (loudness < 1 || loudness > HIGHEST_LOUDNESS) {
                outcome.missNumber();
            } else {
                outcome.succeed(fountainLoudness[fountain]);
                fountainLoudness[fountain] = loudness;
            }
        }

        void toggle(int fountain, Outcome outcome) {
            if (!hasFountain(fountain)) {
                outcome.missIndex();
            } else {
                fountainRuns[fountain] = !fountainRuns[fountain];
                outcome.succeed(fountainRuns[fountain] ? 1 : 0);
            }
        }

        void changeLimit(int newLimit, Outcome outcome) {
            if (newLimit < 0 || newLimit > HIGHEST_NOISE_LIMIT) {
                outcome.missNumber();
            } else {
                outcome.succeed(limit);
                limit = newLimit;
            }
        }

        /** The holder is numbered as in the detail of CELL_TAKEN: a fountain comes behind all benches. */
        int holder(int row, int column) {
            for (int bench = 0; bench < benchTotal; bench++) {
                if (benchRow[bench] == row && benchColumn[bench] == column) {
                    return bench;
                }
            }
            for (int fountain = 0; fountain < fountainTotal; fountain++) {
                if (fountainRow[fountain] == row && fountainColumn[fountain] == column) {
                    return MOST_BENCHES + fountain;
                }
            }
            return NONE;
        }

        char signAt(int row, int column) {
            int holder = holder(row, column);
            if (holder == NONE) {
                return '.';
            }
            if (holder < MOST_BENCHES) {
                return (char) ('0' + holder);
            }
            return fountainRuns[holder - MOST_BENCHES] ? 'F' : 'f';
        }

        int noise(int row, int column) {
            int sum = 0;
            for (int fountain = 0; fountain < fountainTotal; fountain++) {
                int distance = Math.abs(fountainRow[fountain] - row) + Math.abs(fountainColumn[fountain] - column);
                int sound = fountainLoudness[fountain] - SOUND_LOST_A_STEP * distance;
                if (fountainRuns[fountain] && sound > 0) {
                    sum += sound;
                }
            }
            return sum;
        }

        int rent(int bench) {
            return Math.max(1, benchBaseRent[bench] - noise(benchRow[bench], benchColumn[bench]));
        }

        boolean quiet(int bench) {
            return noise(benchRow[bench], benchColumn[bench]) <= limit;
        }

        void copyFrom(Park other) {
            benchTotal = other.benchTotal;
            System.arraycopy(other.benchRow, 0, benchRow, 0, MOST_BENCHES);
            System.arraycopy(other.benchColumn, 0, benchColumn, 0, MOST_BENCHES);
            System.arraycopy(other.benchBaseRent, 0, benchBaseRent, 0, MOST_BENCHES);
            fountainTotal = other.fountainTotal;
            System.arraycopy(other.fountainRow, 0, fountainRow, 0, MOST_FOUNTAINS);
            System.arraycopy(other.fountainColumn, 0, fountainColumn, 0, MOST_FOUNTAINS);
            System.arraycopy(other.fountainLoudness, 0, fountainLoudness, 0, MOST_FOUNTAINS);
            System.arraycopy(other.fountainRuns, 0, fountainRuns, 0, MOST_FOUNTAINS);
            limit = other.limit;
        }
    }

    /** The second way to the noise: each fountain's sound walks from cell to cell. */
    private static final class NoiseMap {
        final int[] total = new int[SIDE * SIDE];
        final int[] sound = new int[SIDE * SIDE];

        void spreadAll(Park park) {
            Arrays.fill(total, 0);
            for (int fountain = 0; fountain < park.fountainTotal; fountain++) {
                if (park.fountainRuns[fountain]) {
                    int source = park.fountainRow[fountain] * SIDE + park.fountainColumn[fountain];
                    spreadFrom(source, park.fountainLoudness[fountain]);
                    addSound();
                }
            }
        }

        private void spreadFrom(int source, int loudness) {
            Arrays.fill(sound, 0);
            sound[source] = loudness;
            for (int front = loudness; front > SOUND_LOST_A_STEP; front -= SOUND_LOST_A_STEP) {
                for (int cell = 0; cell < sound.length; cell++) {
                    if (sound[cell] == front) {
                        passOn(cell / SIDE, cell % SIDE, front - SOUND_LOST_A_STEP);
                    }
                }
            }
        }

        private void passOn(int row, int column, int rest) {
            hear(row - 1, column, rest);
            hear(row + 1, column, rest);
            hear(row, column - 1, rest);
            hear(row, column + 1, rest);
        }

        private void hear(int row, int column, int rest) {
            // A cell that has sound already was reached by a way that is no longer, so its sound stays.
            if (Park.hasCell(row, column) && sound[row * SIDE + column] == 0) {
                sound[row * SIDE + column] = rest;
            }
        }

        private void addSound() {
            for (int cell = 0; cell < total.length; cell++) {
                total[cell] += sound[cell];
            }
        }
    }

    /** All that undo and the snapshot cover: the park, the tenants, the leases and the coins. */
    private static final class Books {
        final Park park = new Park();
        int tenantTotal = 0;
        final int[] coins = new int[MOST_TENANTS];
        final int[] defaults = new int[MOST_TENANTS];
        // By bench; the tenant is NONE where there is no lease.
        final int[] leaseTenant = new int[MOST_BENCHES];
        final int[] leaseDeposit = new int[MOST_BENCHES];
        final int[] leaseMonths = new int[MOST_BENCHES];
        int monthsPassed = 0;
        int brokerPurse = 0;
        int coinsGiven = 0;
        int defaulted = 0;
        int terminated = 0;
        int completed = 0;

        Books() {
            Arrays.fill(leaseTenant, NONE);
        }

        static boolean isTerm(int months) {
            return months >= 1 && months <= LONGEST_TERM;
        }

        boolean hasTenant(int tenant) {
            return tenant >= 0 && tenant < tenantTotal;
        }

        boolean leased(int bench) {
            return hasTenant(leaseTenant[bench]);
        }

        int leasedBench(int tenant) {
            for (int bench = 0; bench < park.benchTotal; bench++) {
                if (leaseTenant[bench] == tenant) {
                    return bench;
                }
            }
            return NONE;
        }

        void enrol(int purse, Outcome outcome) {
            if (purse < 0 || purse > MOST_COINS_AT_ONCE) {
                outcome.missNumber();
            } else if (tenantTotal >= MOST_TENANTS) {
                outcome.reject(TENANT_LIMIT, MOST_TENANTS);
            } else {
                coins[tenantTotal] = purse;
                defaults[tenantTotal] = 0;
                coinsGiven += purse;
                tenantTotal++;
                outcome.succeed(tenantTotal - 1);
            }
        }

        void endow(int tenant, int gift, Outcome outcome) {
            if (!hasTenant(tenant)) {
                outcome.missIndex();
            } else if (gift < 1 || gift > MOST_COINS_AT_ONCE) {
                outcome.missNumber();
            } else {
                coins[tenant] += gift;
                coinsGiven += gift;
                outcome.succeed(coins[tenant]);
            }
        }

        /** Answers the first reason to reject a lease, or NO_REASON. */
        int leaseObstacle(int tenant, int bench) {
            if (defaults[tenant] >= DEFAULTS_TO_BAN) {
                return BANNED;
            }
            if (leasedBench(tenant) != NONE) {
                return HAS_LEASE;
            }
            if (leased(bench)) {
                return LET;
            }
            if (!park.quiet(bench)) {
                return LOUD;
            }
            return coins[tenant] < park.rent(bench) ? TOO_POOR : NO_REASON;
        }

        private int obstacleDetail(int reason, int tenant, int bench) {
            switch (reason) {
                case HAS_LEASE:
                    return leasedBench(tenant);
                case LET:
                    return leaseTenant[bench];
                case LOUD:
                    return park.noise(park.benchRow[bench], park.benchColumn[bench]);
                case TOO_POOR:
                    return coins[tenant];
                default:
                    return tenant;
            }
        }

        int cheapestBench(int tenant) {
            int cheapest = NONE;
            int lowestRent = 0;
            for (int bench = 0; bench < park.benchTotal; bench++) {
                int rent = park.rent(bench);
                if (leaseObstacle(tenant, bench) == NO_REASON && (cheapest == NONE || rent < lowestRent)) {
                    cheapest = bench;
                    lowestRent = rent;
                }
            }
            return cheapest;
        }

        void sign(int tenant, int bench, int months, Outcome outcome) {
            if (!hasTenant(tenant) || !park.hasBench(bench)) {
                outcome.missIndex();
                return;
            }
            if (!isTerm(months)) {
                outcome.missNumber();
                return;
            }
            int obstacle = leaseObstacle(tenant, bench);
            if (obstacle != NO_REASON) {
                outcome.reject(obstacle, obstacleDetail(obstacle, tenant, bench));
                return;
            }
            int deposit = park.rent(bench);
            coins[tenant] -= deposit;
            leaseTenant[bench] = tenant;
            leaseDeposit[bench] = deposit;
            leaseMonths[bench] = months;
            outcome.succeed(deposit);
        }

        void breakOff(int bench, Outcome outcome) {
            if (!park.hasBench(bench)) {
                outcome.missIndex();
            } else if (!leased(bench)) {
                outcome.reject(NOT_LET, bench);
            } else {
                int back = leaseDeposit[bench] / 2;
                outcome.succeed(back);
                closeLease(bench, back);
            }
        }

        void extend(int bench, int months, Outcome outcome) {
            if (!park.hasBench(bench)) {
                outcome.missIndex();
            } else if (!isTerm(months)) {
                outcome.missNumber();
            } else if (!leased(bench)) {
                outcome.reject(NOT_LET, bench);
            } else if (leaseMonths[bench] + months > LONGEST_TERM) {
                outcome.reject(TERM_LIMIT, leaseMonths[bench]);
            } else {
                leaseMonths[bench] += months;
                outcome.succeed(leaseMonths[bench]);
            }
        }

        /** The tenant gets that part of the deposit back, and the broker the rest. */
        private void closeLease(int bench, int back) {
            coins[leaseTenant[bench]] += back;
            brokerPurse += leaseDeposit[bench] - back;
            leaseTenant[bench] = NONE;
            leaseDeposit[bench] = 0;
            leaseMonths[bench] = 0;
        }

        void elapse(int months, Outcome outcome) {
            if (!isTerm(months)) {
                outcome.missNumber();
                return;
            }
            int ended = 0;
            for (int month = 0; month < months; month++) {
                for (int bench = 0; bench < park.benchTotal; bench++) {
                    if (leased(bench) && endsThisMonth(bench)) {
                        ended++;
                    }
                }
                monthsPassed++;
            }
            outcome.succeed(ended);
        }

        /** Lets one month pass for a lease. */
        private boolean endsThisMonth(int bench) {
            int tenant = leaseTenant[bench];
            int rent = park.rent(bench);
            if (!park.quiet(bench)) {
                terminated++;
                closeLease(bench, leaseDeposit[bench]);
                return true;
            }
            if (coins[tenant] < rent) {
                defaulted++;
                defaults[tenant]++;
                closeLease(bench, 0);
                return true;
            }
            coins[tenant] -= rent;
            brokerPurse += rent;
            leaseMonths[bench]--;
            if (leaseMonths[bench] > 0) {
                return false;
            }
            completed++;
            closeLease(bench, leaseDeposit[bench]);
            return true;
        }

        /** For how many months the tenant's coins last, without a look at the term. */
        int payableMonths(int bench) {
            int rent = park.rent(bench);
            return rent < 1 ? 0 : coins[leaseTenant[bench]] / rent;
        }

        int leaseIncome(int months) {
            int sum = 0;
            for (int bench = 0; bench < park.benchTotal; bench++) {
                if (leased(bench) && park.quiet(bench)) {
                    sum += incomeFrom(bench, Math.min(months, leaseMonths[bench]));
                }
            }
            return sum;
        }

        private int incomeFrom(int bench, int monthsDue) {
            int paid = payableMonths(bench);
            int rent = park.rent(bench);
            return paid < monthsDue ? paid * rent + leaseDeposit[bench] : monthsDue * rent;
        }

        int deposits() {
            int sum = 0;
            for (int bench = 0; bench < park.benchTotal; bench++) {
                sum += leaseDeposit[bench];
            }
            return sum;
        }

        int coinsAround() {
            int sum = deposits() + brokerPurse;
            for (int tenant = 0; tenant < tenantTotal; tenant++) {
                sum += coins[tenant];
            }
            return sum;
        }

        boolean someTenantHasTwoBenches() {
            for (int bench = 0; bench < park.benchTotal; bench++) {
                if (leased(bench) && leasedBench(leaseTenant[bench]) != bench) {
                    return true;
                }
            }
            return false;
        }

        int benchesAhead(int bench) {
            int count = 0;
            for (int other = 0; other < park.benchTotal; other++) {
                if (benchComesFirst(other, bench)) {
                    count++;
                }
            }
            return count;
        }

        private boolean benchComesFirst(int one, int other) {
            int rent = park.rent(one);
            int otherRent = park.rent(other);
            if (rent != otherRent) {
                return rent < otherRent;
            }
            if (leased(one) != leased(other)) {
                return leased(other);
            }
            return one < other;
        }

        int tenantsAhead(int tenant) {
            int count = 0;
            for (int other = 0; other < tenantTotal; other++) {
                if (tenantComesFirst(other, tenant)) {
                    count++;
                }
            }
            return count;
        }

        private boolean tenantComesFirst(int one, int other) {
            if (coins[one] != coins[other]) {
                return coins[one] > coins[other];
            }
            if (defaults[one] != defaults[other]) {
                return defaults[one] < defaults[other];
            }
            return one < other;
        }

        void copyFrom(Books other) {
            park.copyFrom(other.park);
            tenantTotal = other.tenantTotal;
            System.arraycopy(other.coins, 0, coins, 0, MOST_TENANTS);
            System.arraycopy(other.defaults, 0, defaults, 0, MOST_TENANTS);
            System.arraycopy(other.leaseTenant, 0, leaseTenant, 0, MOST_BENCHES);
            System.arraycopy(other.leaseDeposit, 0, leaseDeposit, 0, MOST_BENCHES);
            System.arraycopy(other.leaseMonths, 0, leaseMonths, 0, MOST_BENCHES);
            monthsPassed = other.monthsPassed;
            brokerPurse = other.brokerPurse;
            coinsGiven = other.coinsGiven;
            defaulted = other.defaulted;
            terminated = other.terminated;
            completed = other.completed;
        }
    }

    /** The books as they were ahead of the latest changes; a full ring forgets the oldest. */
    private static final class History {
        final Books[] ring = new Books[UNDO_DEPTH];
        int next = 0;
        int size = 0;

        History() {
            for (int slot = 0; slot < UNDO_DEPTH; slot++) {
                ring[slot] = new Books();
            }
        }

        void remember(Books books) {
            Books slot = ring[next];
            if (slot != null) {
                slot.copyFrom(books);
            }
            next = (next + 1) % UNDO_DEPTH;
            size = Math.min(size + 1, UNDO_DEPTH);
        }

        void takeBack(Books books) {
            next = (next + UNDO_DEPTH - 1) % UNDO_DEPTH;
            size--;
            Books slot = ring[next];
            if (slot != null) {
                books.copyFrom(slot);
            }
        }
    }

    /** The words of the commands, and what follows each word. */
    private enum Verb {
        BENCH("bench ", 3, true),
        FOUNTAIN("fountain ", 3, false),
        TENANT("tenant ", 1, true),
        GIVE("give ", 2, true),
        LEASE("lease ", 3, true),
        END("end ", 1, false),
        RENEW("renew ", 2, true),
        SWITCH("switch ", 1, false),
        LIMIT("limit ", 1, true),
        PASS("pass ", 1, true);

        private static final Verb[] ALL = values();

        final String word;
        final int argumentCount;
        // A number may have a second digit.
        final boolean endsInNumber;

        Verb(String word, int argumentCount, boolean endsInNumber) {
            this.word = word;
            this.argumentCount = argumentCount;
            this.endsInNumber = endsInNumber;
        }
    }

    /** The input and its reader. Where reading fails, the position is the offset of the syntax error. */
    private static final class Input {
        final char[] text = new char[INPUT_SIZE];
        int length = 0;
        int position = 0;
        Verb verb = Verb.BENCH;
        final int[] arguments = new int[3];

        /** Answers NONE if there is a syntax error. */
        int countCommands() {
            position = 0;
            for (int count = 1; count <= INPUT_SIZE; count++) {
                if (!readCommand()) {
                    return NONE;
                }
                if (position == length) {
                    return count;
                }
                if (!readSign(';')) {
                    return NONE;
                }
            }
            return NONE;
        }

        boolean readCommand() {
            return readWord() && readArguments();
        }

        boolean readSign(char sign) {
            if (position >= length || text[position] != sign) {
                return false;
            }
            position++;
            return true;
        }

        private boolean readWord() {
            int furthest = 0;
            for (Verb candidate : Verb.ALL) {
                int matching = matchingLetters(candidate.word);
                furthest = Math.max(furthest, matching);
                if (matching == candidate.word.length()) {
                    verb = candidate;
                    position += matching;
                    return true;
                }
            }
            position += furthest;
            return false;
        }

        private int matchingLetters(String word) {
            int count = 0;
            while (count < word.length() && position + count < length
                    && text[position + count] == word.charAt(count)) {
                count++;
            }
            return count;
        }

        private boolean readArguments() {
            int last = verb.argumentCount - 1;
            for (int index = 0; index <= last && index < arguments.length; index++) {
                if (index > 0 && !readSign(' ')) {
                    return false;
                }
                if (!atDigit()) {
                    return false;
                }
                arguments[index] = readDigit();
                if (index == last && verb.endsInNumber && atDigit()) {
                    arguments[index] = 10 * arguments[index] + readDigit();
                }
            }
            return true;
        }

        private boolean atDigit() {
            return position < length && text[position] >= '0' && text[position] <= '9';
        }

        private int readDigit() {
            int digit = text[position] - '0';
            position++;
            return digit;
        }
    }
}
