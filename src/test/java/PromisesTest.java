import java.util.List;
import java.util.function.Function;

/** At least one test for each promise of the document: ordinary inputs, edges, wrong inputs. */
public final class PromisesTest {
    private static final Class<?> NO_INDEX = Check.NO_INDEX;
    private static final Class<?> WRONG_NUMBER = Check.WRONG_NUMBER;
    private static final Class<?> REJECTED = Check.REJECTED;
    private static final Class<?> NO_ELEMENT = Check.NO_ELEMENT;
    private static final Class<?> WRONG_STATE = Check.WRONG_STATE;
    private static final Class<?> NO_MEAN = Check.NO_MEAN;
    private static final int LOWEST = Integer.MIN_VALUE;
    private static final int HIGHEST = Integer.MAX_VALUE;

    public static void main(String[] args) {
        benchesAndFountains();
        tenants();
        leases();
        months();
        totalsAndOrders();
        output();
        commands();
        rejectionsAndHistory();
        Check.finish();
    }

    private static void benchesAndFountains() {
        Check.test("constants", PromisesTest::constants);
        Check.test("1 a new object", PromisesTest::newObject);
        Check.test("2 addBench", PromisesTest::addBench);
        Check.test("2 addBench rejected", PromisesTest::addBenchRejected);
        Check.test("3 setRent", PromisesTest::setRent);
        Check.test("4 addFountain", PromisesTest::addFountain);
        Check.test("4 addFountain rejected", PromisesTest::addFountainRejected);
        Check.test("5 setLoudness", PromisesTest::setLoudness);
        Check.test("6 switchFountain", PromisesTest::switchFountain);
        Check.test("7 setNoiseLimit", PromisesTest::setNoiseLimit);
        Check.test("8 benchCount", PromisesTest::benchCount);
        Check.test("9 rowOf", PromisesTest::rowOf);
        Check.test("10 columnOf", PromisesTest::columnOf);
        Check.test("11 baseRent", PromisesTest::baseRent);
        Check.test("12 rentOf", PromisesTest::rentOf);
        Check.test("13 fountainCount", PromisesTest::fountainCount);
        Check.test("14 loudnessOf", PromisesTest::loudnessOf);
        Check.test("15 isRunning", PromisesTest::isRunning);
        Check.test("16 noiseLimit", PromisesTest::noiseLimit);
        Check.test("17 noiseAt", PromisesTest::noiseAt);
        Check.test("18 noiseBySpreading", PromisesTest::noiseBySpreading);
        Check.test("19 isQuiet", PromisesTest::isQuiet);
        Check.test("20 quietCount", PromisesTest::quietCount);
    }

    private static void tenants() {
        Check.test("21 addTenant", PromisesTest::addTenant);
        Check.test("22 giveCoins", PromisesTest::giveCoins);
        Check.test("23 tenantCount", PromisesTest::tenantCount);
        Check.test("24 coinsOf", PromisesTest::coinsOf);
        Check.test("25 defaultsOf", PromisesTest::defaultsOf);
        Check.test("26 benchOf", PromisesTest::benchOf);
        Check.test("27 canLease", PromisesTest::canLease);
        Check.test("28 cheapestFor", PromisesTest::cheapestFor);
    }

    private static void leases() {
        Check.test("29 lease", PromisesTest::lease);
        Check.test("29 lease rejected", PromisesTest::leaseRejected);
        Check.test("29 lease of the banned", PromisesTest::leaseOfTheBanned);
        Check.test("30 endLease", PromisesTest::endLease);
        Check.test("31 renew", PromisesTest::renew);
        Check.test("32 isLet", PromisesTest::isLet);
        Check.test("33 tenantOf", PromisesTest::tenantOf);
        Check.test("34 depositOf", PromisesTest::depositOf);
        Check.test("35 monthsLeft", PromisesTest::monthsLeft);
        Check.test("36 defaultMonth", PromisesTest::defaultMonth);
    }

    private static void months() {
        Check.test("37 passMonths", PromisesTest::passMonths);
        Check.test("37 passMonths ends leases in three ways", PromisesTest::passMonthsEndsLeases);
        Check.test("38 month", PromisesTest::month);
        Check.test("39 and 40 incomes", PromisesTest::incomes);
        Check.test("39 and 40 incomes, wrong months", PromisesTest::incomesOfWrongMonths);
    }

    private static void totalsAndOrders() {
        Check.test("41 brokerCoins", PromisesTest::brokerCoins);
        Check.test("42 depositTotal", PromisesTest::depositTotal);
        Check.test("43 and 44 all coins", PromisesTest::allCoins);
        Check.test("45 defaultedLeases", PromisesTest::defaultedLeases);
        Check.test("46 terminatedLeases", PromisesTest::terminatedLeases);
        Check.test("47 completedLeases", PromisesTest::completedLeases);
        Check.test("48 benchByRent", PromisesTest::benchByRent);
        Check.test("49 tenantByCoins", PromisesTest::tenantByCoins);
        Check.test("50 meanRent", PromisesTest::meanRent);
        Check.test("51 letShare", PromisesTest::letShare);
        Check.test("52 isConsistent", PromisesTest::isConsistent);
    }

    private static void output() {
        Check.test("53 writeBench", PromisesTest::writeBench);
        Check.test("54 writeRow", PromisesTest::writeRow);
        Check.test("55 outputAt", PromisesTest::outputAt);
    }

    private static void commands() {
        Check.test("56 appendInput", PromisesTest::appendInput);
        Check.test("57 execute each command", PromisesTest::executeEachCommand);
        Check.test("57 execute all or none", PromisesTest::executeAllOrNone);
        Check.test("57 execute wrong arguments", PromisesTest::executeWrongArguments);
        Check.test("57 execute empties the input", PromisesTest::executeEmptiesInput);
        Check.test("57 execute, the first exception", PromisesTest::executeFirstException);
        Check.test("58 syntaxErrorOffset", PromisesTest::syntaxErrorOffset);
    }

    private static void rejectionsAndHistory() {
        Check.test("59 rejectionReason", PromisesTest::rejectionReason);
        Check.test("60 rejectionDetail", PromisesTest::rejectionDetail);
        Check.test("61 causeReason", PromisesTest::causeReason);
        Check.test("62 undo", PromisesTest::undo);
        Check.test("62 undo, each kind of change", PromisesTest::undoEachChange);
        Check.test("62 undo, what is no change", PromisesTest::undoNoChange);
        Check.test("62 undo, what it does not cover", PromisesTest::undoDoesNotCover);
        Check.test("63 saveSnapshot", PromisesTest::saveSnapshot);
        Check.test("64 restoreSnapshot", PromisesTest::restoreSnapshot);
        Check.test("64 restoreSnapshot brings all back", PromisesTest::restoreSnapshotWhole);
    }

    /** Bench 0 at rent 5, and a tenant with so many coins. */
    private static BenchBroker benchAndTenant(int coins) {
        BenchBroker b = new BenchBroker();
        b.addBench(0, 0, 5);
        b.addTenant(coins);
        return b;
    }

    private static void rejectedFor(BenchBroker b, int reason, int detail, Check.Call call) {
        Check.due(REJECTED, call);
        Check.due(reason, () -> b.rejectionReason());
        Check.due(detail, () -> b.rejectionDetail());
    }

    // ---- benches and fountains

    private static void constants() {
        int[] all = {BenchBroker.BENCH_LIMIT, BenchBroker.FOUNTAIN_LIMIT, BenchBroker.TENANT_LIMIT,
            BenchBroker.CELL_TAKEN, BenchBroker.BANNED, BenchBroker.HAS_LEASE, BenchBroker.LET, BenchBroker.LOUD,
            BenchBroker.TOO_POOR, BenchBroker.NOT_LET, BenchBroker.TERM_LIMIT, BenchBroker.COMMAND_REJECTED};
        for (int i = 0; i < 12; i++) {
            int at = i;
            Check.due(at + 1, () -> all[at]);
        }
    }

    private static void newObject() {
        BenchBroker b = new BenchBroker();
        Check.due(0, () -> b.benchCount());
        Check.due(0, () -> b.fountainCount());
        Check.due(0, () -> b.tenantCount());
        Check.due(3, () -> b.noiseLimit());
        Check.due(0, () -> b.month());
        Check.due(0, () -> b.brokerCoins());
        Check.due(0, () -> b.depositTotal());
        Check.due(0, () -> b.allCoins());
        Check.due(0, () -> b.allCoinsGiven());
        Check.due(0, () -> b.defaultedLeases() + b.terminatedLeases() + b.completedLeases());
        Check.due(0, () -> b.quietCount());
        Check.due(0, () -> b.noiseAt(5, 5));
        Check.due(true, () -> b.isConsistent());
        Check.due(NO_ELEMENT, () -> b.rejectionReason());
        Check.due(NO_ELEMENT, () -> b.rejectionDetail());
        Check.due(NO_ELEMENT, () -> b.causeReason());
        Check.due(NO_ELEMENT, () -> b.syntaxErrorOffset());
        Check.due(WRONG_STATE, () -> b.undo());
        Check.due(WRONG_STATE, () -> b.restoreSnapshot());
        Check.due(6, () -> b.writeRow(3));
        Check.due("......", () -> Check.output(b, 6));
        BenchBroker other = new BenchBroker();
        b.addBench(0, 0, 1);
        Check.due(0, () -> other.benchCount());
    }

    private static void addBench() {
        BenchBroker b = new BenchBroker();
        Check.due(0, () -> b.addBench(0, 0, 1));
        Check.due(1, () -> b.addBench(5, 5, 20));
        Check.due(2, () -> b.addBench(0, 5, 7));
        Check.due(NO_INDEX, () -> b.addBench(-1, 0, 5));
        Check.due(NO_INDEX, () -> b.addBench(6, 0, 5));
        Check.due(NO_INDEX, () -> b.addBench(0, -1, 5));
        Check.due(NO_INDEX, () -> b.addBench(0, 6, 5));
        Check.due(NO_INDEX, () -> b.addBench(LOWEST, HIGHEST, 5));
        Check.due(NO_INDEX, () -> b.addBench(6, 0, 0));
        Check.due(WRONG_NUMBER, () -> b.addBench(1, 1, 0));
        Check.due(WRONG_NUMBER, () -> b.addBench(1, 1, 21));
        Check.due(WRONG_NUMBER, () -> b.addBench(1, 1, LOWEST));
        Check.due(WRONG_NUMBER, () -> b.addBench(0, 0, 21));
        Check.due(3, () -> b.benchCount());
        Check.due(NO_ELEMENT, () -> b.rejectionReason());
    }

    private static void addBenchRejected() {
        BenchBroker b = new BenchBroker();
        b.addFountain(3, 3, 1);
        b.addFountain(3, 4, 1);
        for (int i = 0; i < 9; i++) {
            b.addBench(i / 6, i % 6, 5);
        }
        rejectedFor(b, BenchBroker.CELL_TAKEN, 8, () -> b.addBench(1, 2, 5));
        rejectedFor(b, BenchBroker.CELL_TAKEN, 0, () -> b.addBench(0, 0, 5));
        rejectedFor(b, BenchBroker.CELL_TAKEN, 11, () -> b.addBench(3, 4, 5));
        Check.due(9, () -> b.benchCount());
        Check.due(9, () -> b.addBench(5, 5, 5));
        rejectedFor(b, BenchBroker.BENCH_LIMIT, 10, () -> b.addBench(4, 4, 5));
        rejectedFor(b, BenchBroker.BENCH_LIMIT, 10, () -> b.addBench(0, 0, 5));
        Check.due(10, () -> b.benchCount());
        Check.due(NO_INDEX, () -> b.addBench(0, 6, 5));
        Check.due(WRONG_NUMBER, () -> b.addBench(4, 4, 21));
    }

    private static void setRent() {
        BenchBroker b = benchAndTenant(20);
        b.lease(0, 0, 3);
        Check.due(5, () -> b.setRent(0, 20));
        Check.due(20, () -> b.setRent(0, 1));
        Check.due(1, () -> b.setRent(0, 1));
        Check.due(5, () -> b.depositOf(0));
        Check.due(1, () -> b.rentOf(0));
        Check.due(NO_INDEX, () -> b.setRent(-1, 5));
        Check.due(NO_INDEX, () -> b.setRent(1, 5));
        Check.due(NO_INDEX, () -> b.setRent(1, 0));
        Check.due(WRONG_NUMBER, () -> b.setRent(0, 0));
        Check.due(WRONG_NUMBER, () -> b.setRent(0, 21));
        Check.due(1, () -> b.baseRent(0));
    }

    private static void addFountain() {
        BenchBroker b = new BenchBroker();
        Check.due(0, () -> b.addFountain(0, 0, 1));
        Check.due(1, () -> b.addFountain(5, 5, 9));
        Check.due(true, () -> b.isRunning(1));
        Check.due(NO_INDEX, () -> b.addFountain(-1, 0, 5));
        Check.due(NO_INDEX, () -> b.addFountain(6, 0, 5));
        Check.due(NO_INDEX, () -> b.addFountain(0, -1, 5));
        Check.due(NO_INDEX, () -> b.addFountain(0, 6, 5));
        Check.due(NO_INDEX, () -> b.addFountain(0, 6, 10));
        Check.due(WRONG_NUMBER, () -> b.addFountain(1, 1, 0));
        Check.due(WRONG_NUMBER, () -> b.addFountain(1, 1, 10));
        Check.due(WRONG_NUMBER, () -> b.addFountain(0, 0, 10));
        Check.due(2, () -> b.fountainCount());
    }

    private static void addFountainRejected() {
        BenchBroker b = new BenchBroker();
        b.addBench(2, 2, 5);
        b.addBench(2, 3, 5);
        b.addFountain(0, 0, 1);
        b.addFountain(0, 1, 1);
        b.addFountain(0, 2, 1);
        rejectedFor(b, BenchBroker.CELL_TAKEN, 1, () -> b.addFountain(2, 3, 9));
        rejectedFor(b, BenchBroker.CELL_TAKEN, 12, () -> b.addFountain(0, 2, 9));
        Check.due(3, () -> b.addFountain(0, 3, 1));
        rejectedFor(b, BenchBroker.FOUNTAIN_LIMIT, 4, () -> b.addFountain(2, 3, 9));
        rejectedFor(b, BenchBroker.FOUNTAIN_LIMIT, 4, () -> b.addFountain(5, 5, 9));
        Check.due(4, () -> b.fountainCount());
        Check.due(NO_INDEX, () -> b.addFountain(6, 6, 9));
        Check.due(WRONG_NUMBER, () -> b.addFountain(5, 5, 0));
    }

    private static void setLoudness() {
        BenchBroker b = new BenchBroker();
        b.addFountain(1, 1, 4);
        Check.due(4, () -> b.setLoudness(0, 9));
        Check.due(9, () -> b.noiseAt(1, 1));
        b.switchFountain(0);
        Check.due(9, () -> b.setLoudness(0, 1));
        Check.due(false, () -> b.isRunning(0));
        Check.due(NO_INDEX, () -> b.setLoudness(1, 5));
        Check.due(NO_INDEX, () -> b.setLoudness(-1, 5));
        Check.due(NO_INDEX, () -> b.setLoudness(1, 0));
        Check.due(WRONG_NUMBER, () -> b.setLoudness(0, 0));
        Check.due(WRONG_NUMBER, () -> b.setLoudness(0, 10));
        Check.due(1, () -> b.loudnessOf(0));
    }

    private static void switchFountain() {
        BenchBroker b = new BenchBroker();
        Check.due(NO_INDEX, () -> b.switchFountain(0));
        b.addFountain(1, 1, 4);
        b.addFountain(1, 2, 4);
        Check.due(false, () -> b.switchFountain(1));
        Check.due(4, () -> b.noiseAt(1, 1));
        Check.due(true, () -> b.switchFountain(1));
        Check.due(6, () -> b.noiseAt(1, 1));
        Check.due(NO_INDEX, () -> b.switchFountain(2));
        Check.due(NO_INDEX, () -> b.switchFountain(-1));
    }

    private static void setNoiseLimit() {
        BenchBroker b = new BenchBroker();
        Check.due(3, () -> b.setNoiseLimit(0));
        Check.due(0, () -> b.setNoiseLimit(20));
        Check.due(WRONG_NUMBER, () -> b.setNoiseLimit(-1));
        Check.due(WRONG_NUMBER, () -> b.setNoiseLimit(21));
        Check.due(20, () -> b.noiseLimit());
    }

    private static void benchCount() {
        BenchBroker b = new BenchBroker();
        b.addFountain(0, 0, 1);
        Check.due(0, () -> b.benchCount());
        b.addBench(0, 1, 1);
        b.addBench(0, 2, 1);
        Check.due(2, () -> b.benchCount());
    }

    private static void rowOf() {
        BenchBroker b = new BenchBroker();
        b.addBench(4, 1, 5);
        b.addBench(0, 5, 5);
        Check.due(4, () -> b.rowOf(0));
        Check.due(0, () -> b.rowOf(1));
        Check.due(NO_INDEX, () -> b.rowOf(2));
        Check.due(NO_INDEX, () -> b.rowOf(-1));
        Check.due(NO_INDEX, () -> b.rowOf(HIGHEST));
    }

    private static void columnOf() {
        BenchBroker b = new BenchBroker();
        b.addBench(4, 1, 5);
        b.addBench(0, 5, 5);
        Check.due(1, () -> b.columnOf(0));
        Check.due(5, () -> b.columnOf(1));
        Check.due(NO_INDEX, () -> b.columnOf(2));
        Check.due(NO_INDEX, () -> b.columnOf(-1));
    }

    private static void baseRent() {
        BenchBroker b = new BenchBroker();
        b.addBench(4, 1, 5);
        b.addFountain(4, 2, 9);
        Check.due(5, () -> b.baseRent(0));
        b.setRent(0, 8);
        Check.due(8, () -> b.baseRent(0));
        Check.due(NO_INDEX, () -> b.baseRent(1));
        Check.due(NO_INDEX, () -> b.baseRent(-1));
    }

    private static void rentOf() {
        BenchBroker b = new BenchBroker();
        b.addBench(4, 1, 8);
        Check.due(8, () -> b.rentOf(0));
        b.addFountain(4, 2, 8);
        Check.due(2, () -> b.rentOf(0));
        b.setLoudness(0, 9);
        Check.due(1, () -> b.rentOf(0));
        b.setRent(0, 1);
        Check.due(1, () -> b.rentOf(0));
        b.switchFountain(0);
        b.setRent(0, 20);
        Check.due(20, () -> b.rentOf(0));
        Check.due(NO_INDEX, () -> b.rentOf(1));
        Check.due(NO_INDEX, () -> b.rentOf(-1));
    }

    private static void fountainCount() {
        BenchBroker b = new BenchBroker();
        b.addBench(0, 0, 1);
        Check.due(0, () -> b.fountainCount());
        b.addFountain(0, 1, 1);
        b.switchFountain(0);
        Check.due(1, () -> b.fountainCount());
    }

    private static void loudnessOf() {
        BenchBroker b = new BenchBroker();
        Check.due(NO_INDEX, () -> b.loudnessOf(0));
        b.addFountain(0, 1, 1);
        b.addFountain(0, 2, 9);
        b.switchFountain(1);
        Check.due(1, () -> b.loudnessOf(0));
        Check.due(9, () -> b.loudnessOf(1));
        Check.due(NO_INDEX, () -> b.loudnessOf(2));
        Check.due(NO_INDEX, () -> b.loudnessOf(-1));
    }

    private static void isRunning() {
        BenchBroker b = new BenchBroker();
        Check.due(NO_INDEX, () -> b.isRunning(0));
        b.addFountain(0, 1, 1);
        b.addFountain(0, 2, 1);
        b.switchFountain(0);
        Check.due(false, () -> b.isRunning(0));
        Check.due(true, () -> b.isRunning(1));
        Check.due(NO_INDEX, () -> b.isRunning(2));
        Check.due(NO_INDEX, () -> b.isRunning(-1));
    }

    private static void noiseLimit() {
        BenchBroker b = new BenchBroker();
        Check.due(3, () -> b.noiseLimit());
        b.setNoiseLimit(7);
        Check.due(7, () -> b.noiseLimit());
    }

    private static void noiseAt() {
        BenchBroker b = new BenchBroker();
        b.addFountain(2, 2, 9);
        Check.due(9, () -> b.noiseAt(2, 2));
        Check.due(7, () -> b.noiseAt(1, 2));
        Check.due(5, () -> b.noiseAt(3, 3));
        Check.due(1, () -> b.noiseAt(0, 0));
        Check.due(0, () -> b.noiseAt(5, 4));
        b.addFountain(2, 5, 8);
        Check.due(9 + 2, () -> b.noiseAt(2, 2));
        Check.due(0 + 2, () -> b.noiseAt(5, 5));
        b.switchFountain(0);
        Check.due(2, () -> b.noiseAt(2, 2));
        Check.due(0, () -> b.noiseAt(2, 1));
        Check.due(NO_INDEX, () -> b.noiseAt(-1, 0));
        Check.due(NO_INDEX, () -> b.noiseAt(6, 0));
        Check.due(NO_INDEX, () -> b.noiseAt(0, -1));
        Check.due(NO_INDEX, () -> b.noiseAt(0, 6));
    }

    private static void noiseBySpreading() {
        BenchBroker b = new BenchBroker();
        Check.due(0, () -> b.noiseBySpreading(0, 0));
        b.addFountain(0, 0, 9);
        b.addFountain(0, 1, 8);
        b.addFountain(5, 5, 7);
        b.addFountain(3, 2, 1);
        b.addBench(1, 1, 5);
        Check.due(9 + 6, () -> b.noiseBySpreading(0, 0));
        Check.due(7 + 8, () -> b.noiseBySpreading(0, 1));
        Check.due(5 + 6, () -> b.noiseBySpreading(1, 1));
        Check.due(1, () -> b.noiseBySpreading(3, 2));
        for (int cell = 0; cell < 36; cell++) {
            int row = cell / 6;
            int column = cell % 6;
            Check.due(b.noiseAt(row, column), () -> b.noiseBySpreading(row, column));
        }
        b.switchFountain(0);
        Check.due(6, () -> b.noiseBySpreading(0, 0));
        Check.due(NO_INDEX, () -> b.noiseBySpreading(-1, 0));
        Check.due(NO_INDEX, () -> b.noiseBySpreading(6, 0));
        Check.due(NO_INDEX, () -> b.noiseBySpreading(0, -1));
        Check.due(NO_INDEX, () -> b.noiseBySpreading(0, 6));
    }

    private static void isQuiet() {
        BenchBroker b = new BenchBroker();
        b.addBench(0, 0, 5);
        Check.due(true, () -> b.isQuiet(0));
        b.addFountain(0, 1, 5);
        Check.due(true, () -> b.isQuiet(0));
        b.setLoudness(0, 6);
        Check.due(false, () -> b.isQuiet(0));
        b.setNoiseLimit(4);
        Check.due(true, () -> b.isQuiet(0));
        Check.due(NO_INDEX, () -> b.isQuiet(1));
        Check.due(NO_INDEX, () -> b.isQuiet(-1));
    }

    private static void quietCount() {
        BenchBroker b = new BenchBroker();
        b.addBench(0, 0, 5);
        b.addBench(5, 5, 5);
        b.addBench(5, 4, 5);
        Check.due(3, () -> b.quietCount());
        b.addFountain(0, 1, 9);
        Check.due(2, () -> b.quietCount());
        b.setNoiseLimit(7);
        Check.due(3, () -> b.quietCount());
    }

    // ---- tenants

    private static void addTenant() {
        BenchBroker b = new BenchBroker();
        Check.due(0, () -> b.addTenant(0));
        Check.due(1, () -> b.addTenant(99));
        Check.due(WRONG_NUMBER, () -> b.addTenant(-1));
        Check.due(WRONG_NUMBER, () -> b.addTenant(100));
        for (int i = 2; i < 8; i++) {
            b.addTenant(i);
        }
        rejectedFor(b, BenchBroker.TENANT_LIMIT, 8, () -> b.addTenant(5));
        Check.due(WRONG_NUMBER, () -> b.addTenant(100));
        Check.due(8, () -> b.tenantCount());
    }

    private static void giveCoins() {
        BenchBroker b = new BenchBroker();
        Check.due(NO_INDEX, () -> b.giveCoins(0, 1));
        b.addTenant(0);
        b.addTenant(99);
        Check.due(1, () -> b.giveCoins(0, 1));
        Check.due(198, () -> b.giveCoins(1, 99));
        Check.due(NO_INDEX, () -> b.giveCoins(2, 1));
        Check.due(NO_INDEX, () -> b.giveCoins(-1, 0));
        Check.due(WRONG_NUMBER, () -> b.giveCoins(0, 0));
        Check.due(WRONG_NUMBER, () -> b.giveCoins(0, 100));
        Check.due(1, () -> b.coinsOf(0));
    }

    private static void tenantCount() {
        BenchBroker b = benchAndTenant(5);
        Check.due(1, () -> b.tenantCount());
        b.addTenant(0);
        Check.due(2, () -> b.tenantCount());
    }

    private static void coinsOf() {
        BenchBroker b = benchAndTenant(20);
        Check.due(20, () -> b.coinsOf(0));
        b.lease(0, 0, 1);
        Check.due(15, () -> b.coinsOf(0));
        Check.due(NO_INDEX, () -> b.coinsOf(1));
        Check.due(NO_INDEX, () -> b.coinsOf(-1));
    }

    private static void defaultsOf() {
        BenchBroker b = benchAndTenant(15);
        b.addTenant(1);
        for (int defaults = 0; defaults < 3; defaults++) {
            Check.due(defaults, () -> b.defaultsOf(0));
            b.lease(0, 0, 12);
            b.passMonths(12);
            b.giveCoins(0, 5);
        }
        Check.due(3, () -> b.defaultsOf(0));
        Check.due(0, () -> b.defaultsOf(1));
        Check.due(NO_INDEX, () -> b.defaultsOf(2));
        Check.due(NO_INDEX, () -> b.defaultsOf(-1));
    }

    private static void benchOf() {
        BenchBroker b = benchAndTenant(20);
        b.addBench(1, 1, 2);
        b.addTenant(20);
        Check.due(NO_ELEMENT, () -> b.benchOf(0));
        b.lease(0, 1, 1);
        Check.due(1, () -> b.benchOf(0));
        Check.due(NO_ELEMENT, () -> b.benchOf(1));
        Check.due(NO_INDEX, () -> b.benchOf(2));
        Check.due(NO_INDEX, () -> b.benchOf(-1));
        b.passMonths(1);
        Check.due(NO_ELEMENT, () -> b.benchOf(0));
    }

    private static void canLease() {
        BenchBroker b = benchAndTenant(5);
        b.addTenant(4);
        b.addTenant(50);
        b.addBench(5, 5, 5);
        b.addFountain(5, 4, 6);
        Check.due(true, () -> b.canLease(0, 0));
        Check.due(false, () -> b.canLease(1, 0));
        Check.due(false, () -> b.canLease(2, 1));
        b.setNoiseLimit(4);
        Check.due(true, () -> b.canLease(2, 1));
        b.lease(2, 1, 3);
        Check.due(false, () -> b.canLease(2, 0));
        Check.due(false, () -> b.canLease(0, 1));
        Check.due(true, () -> b.canLease(0, 0));
        Check.due(NO_INDEX, () -> b.canLease(3, 0));
        Check.due(NO_INDEX, () -> b.canLease(-1, 0));
        Check.due(NO_INDEX, () -> b.canLease(0, 2));
        Check.due(NO_INDEX, () -> b.canLease(0, -1));
        Check.due(NO_ELEMENT, () -> b.rejectionReason());
        Check.due(false, () -> withBannedTenant().canLease(0, 0));
    }

    private static void cheapestFor() {
        BenchBroker b = new BenchBroker();
        b.addTenant(9);
        Check.due(NO_ELEMENT, () -> b.cheapestFor(0));
        b.addBench(0, 0, 10);
        Check.due(NO_ELEMENT, () -> b.cheapestFor(0));
        b.addBench(5, 5, 9);
        b.addBench(5, 4, 4);
        b.addBench(5, 3, 4);
        Check.due(2, () -> b.cheapestFor(0));
        b.addTenant(9);
        b.lease(1, 2, 2);
        Check.due(3, () -> b.cheapestFor(0));
        Check.due(NO_ELEMENT, () -> b.cheapestFor(1));
        b.addFountain(0, 1, 5);
        b.setRent(0, 5);
        Check.due(0, () -> b.cheapestFor(0));
        b.setNoiseLimit(2);
        Check.due(3, () -> b.cheapestFor(0));
        Check.due(NO_INDEX, () -> b.cheapestFor(2));
        Check.due(NO_INDEX, () -> b.cheapestFor(-1));
        Check.due(NO_ELEMENT, () -> withBannedTenant().cheapestFor(0));
    }

    // ---- leases

    private static void lease() {
        BenchBroker b = benchAndTenant(5);
        b.addTenant(50);
        b.addBench(5, 5, 9);
        b.addFountain(5, 4, 4);
        Check.due(5, () -> b.lease(0, 0, 1));
        Check.due(0, () -> b.coinsOf(0));
        Check.due(7, () -> b.lease(1, 1, 12));
        Check.due(43, () -> b.coinsOf(1));
        Check.due(12, () -> b.monthsLeft(1));
        Check.due(7, () -> b.depositOf(1));
        Check.due(0, () -> b.brokerCoins());
        Check.due(NO_INDEX, () -> b.lease(2, 0, 1));
        Check.due(NO_INDEX, () -> b.lease(-1, 0, 1));
        Check.due(NO_INDEX, () -> b.lease(0, 2, 1));
        Check.due(NO_INDEX, () -> b.lease(0, -1, 1));
        Check.due(NO_INDEX, () -> b.lease(2, 0, 0));
        Check.due(WRONG_NUMBER, () -> b.lease(0, 0, 0));
        Check.due(WRONG_NUMBER, () -> b.lease(0, 0, 13));
        Check.due(NO_ELEMENT, () -> b.rejectionReason());
    }

    private static void leaseRejected() {
        BenchBroker b = benchAndTenant(4);
        b.addTenant(30);
        b.addTenant(30);
        b.addBench(0, 1, 20);
        b.addBench(5, 5, 5);
        rejectedFor(b, BenchBroker.TOO_POOR, 4, () -> b.lease(0, 0, 1));
        b.addFountain(0, 2, 6);
        b.setNoiseLimit(2);
        rejectedFor(b, BenchBroker.LOUD, 4, () -> b.lease(0, 1, 1));
        b.setNoiseLimit(4);
        b.lease(2, 1, 5);
        b.setNoiseLimit(0);
        rejectedFor(b, BenchBroker.LET, 2, () -> b.lease(0, 1, 1));
        b.lease(1, 2, 5);
        rejectedFor(b, BenchBroker.HAS_LEASE, 2, () -> b.lease(1, 1, 1));
        rejectedFor(b, BenchBroker.HAS_LEASE, 2, () -> b.lease(1, 2, 1));
        Check.due(4, () -> b.coinsOf(0));
        Check.due(2, () -> b.tenantOf(1));
        Check.due(5, () -> b.monthsLeft(1));
    }

    /** Tenant 0 is banned and has 2 coins, tenant 1 has none; bench 0 has rent 5. */
    private static BenchBroker withBannedTenant() {
        BenchBroker b = benchAndTenant(2);
        b.addTenant(0);
        for (int defaults = 0; defaults < 3; defaults++) {
            b.setRent(0, 1);
            b.lease(0, 0, 12);
            b.setRent(0, 20);
            b.passMonths(1);
            b.giveCoins(0, 1);
        }
        b.setRent(0, 5);
        return b;
    }

    private static void leaseOfTheBanned() {
        BenchBroker b = withBannedTenant();
        Check.due(3, () -> b.defaultsOf(0));
        rejectedFor(b, BenchBroker.BANNED, 0, () -> b.lease(0, 0, 1));
        b.giveCoins(1, 50);
        b.lease(1, 0, 2);
        rejectedFor(b, BenchBroker.BANNED, 0, () -> b.lease(0, 0, 1));
        rejectedFor(b, BenchBroker.HAS_LEASE, 0, () -> b.lease(1, 0, 1));
    }

    private static void endLease() {
        BenchBroker b = benchAndTenant(20);
        b.addBench(1, 1, 4);
        rejectedFor(b, BenchBroker.NOT_LET, 1, () -> b.endLease(1));
        b.lease(0, 0, 3);
        b.setRent(0, 9);
        Check.due(2, () -> b.endLease(0));
        Check.due(17, () -> b.coinsOf(0));
        Check.due(3, () -> b.brokerCoins());
        Check.due(false, () -> b.isLet(0));
        Check.due(0, () -> b.depositTotal());
        Check.due(0, () -> b.defaultedLeases() + b.terminatedLeases() + b.completedLeases());
        Check.due(0, () -> b.defaultsOf(0));
        b.lease(0, 1, 1);
        Check.due(2, () -> b.endLease(1));
        Check.due(5, () -> b.brokerCoins());
        rejectedFor(b, BenchBroker.NOT_LET, 0, () -> b.endLease(0));
        Check.due(NO_INDEX, () -> b.endLease(2));
        Check.due(NO_INDEX, () -> b.endLease(-1));
    }

    private static void renew() {
        BenchBroker b = benchAndTenant(20);
        b.addBench(1, 1, 4);
        b.lease(0, 0, 1);
        Check.due(4, () -> b.renew(0, 3));
        rejectedFor(b, BenchBroker.TERM_LIMIT, 4, () -> b.renew(0, 9));
        rejectedFor(b, BenchBroker.TERM_LIMIT, 4, () -> b.renew(0, 12));
        Check.due(12, () -> b.renew(0, 8));
        rejectedFor(b, BenchBroker.TERM_LIMIT, 12, () -> b.renew(0, 1));
        rejectedFor(b, BenchBroker.NOT_LET, 1, () -> b.renew(1, 12));
        Check.due(12, () -> b.monthsLeft(0));
        Check.due(5, () -> b.depositOf(0));
        Check.due(NO_INDEX, () -> b.renew(2, 1));
        Check.due(NO_INDEX, () -> b.renew(-1, 0));
        Check.due(WRONG_NUMBER, () -> b.renew(0, 0));
        Check.due(WRONG_NUMBER, () -> b.renew(0, 13));
        Check.due(WRONG_NUMBER, () -> b.renew(1, 13));
    }

    private static void isLet() {
        BenchBroker b = benchAndTenant(20);
        b.addBench(1, 1, 4);
        Check.due(false, () -> b.isLet(0));
        b.lease(0, 0, 1);
        Check.due(true, () -> b.isLet(0));
        Check.due(false, () -> b.isLet(1));
        Check.due(NO_INDEX, () -> b.isLet(2));
        Check.due(NO_INDEX, () -> b.isLet(-1));
        b.passMonths(1);
        Check.due(false, () -> b.isLet(0));
    }

    private static void tenantOf() {
        BenchBroker b = benchAndTenant(20);
        b.addTenant(20);
        Check.due(NO_ELEMENT, () -> b.tenantOf(0));
        b.lease(1, 0, 1);
        Check.due(1, () -> b.tenantOf(0));
        Check.due(NO_INDEX, () -> b.tenantOf(1));
        Check.due(NO_INDEX, () -> b.tenantOf(-1));
    }

    private static void depositOf() {
        BenchBroker b = benchAndTenant(20);
        Check.due(NO_ELEMENT, () -> b.depositOf(0));
        b.lease(0, 0, 1);
        b.addFountain(0, 1, 4);
        Check.due(3, () -> b.rentOf(0));
        Check.due(5, () -> b.depositOf(0));
        Check.due(NO_INDEX, () -> b.depositOf(1));
        Check.due(NO_INDEX, () -> b.depositOf(-1));
        b.endLease(0);
        Check.due(NO_ELEMENT, () -> b.depositOf(0));
    }

    private static void monthsLeft() {
        BenchBroker b = benchAndTenant(20);
        Check.due(NO_ELEMENT, () -> b.monthsLeft(0));
        b.lease(0, 0, 3);
        Check.due(3, () -> b.monthsLeft(0));
        b.passMonths(2);
        Check.due(1, () -> b.monthsLeft(0));
        Check.due(NO_INDEX, () -> b.monthsLeft(1));
        Check.due(NO_INDEX, () -> b.monthsLeft(-1));
        b.passMonths(1);
        Check.due(NO_ELEMENT, () -> b.monthsLeft(0));
    }

    private static void defaultMonth() {
        BenchBroker b = benchAndTenant(17);
        Check.due(NO_ELEMENT, () -> b.defaultMonth(0));
        b.lease(0, 0, 2);
        Check.due(NO_ELEMENT, () -> b.defaultMonth(0));
        b.renew(0, 1);
        Check.due(3, () -> b.defaultMonth(0));
        b.setRent(0, 13);
        Check.due(1, () -> b.defaultMonth(0));
        b.setRent(0, 12);
        Check.due(2, () -> b.defaultMonth(0));
        b.addFountain(0, 1, 6);
        Check.due(NO_ELEMENT, () -> b.defaultMonth(0));
        b.setNoiseLimit(4);
        Check.due(2, () -> b.defaultMonth(0));
        b.passMonths(1);
        Check.due(1, () -> b.defaultMonth(0));
        Check.due(1, () -> b.passMonths(1));
        Check.due(1, () -> b.defaultedLeases());
        b.giveCoins(0, 5);
        b.setRent(0, 1);
        b.switchFountain(0);
        int coins = b.coinsOf(0);
        b.lease(0, 0, 12);
        Check.due(coins, () -> b.defaultMonth(0));
        Check.due(NO_INDEX, () -> b.defaultMonth(1));
        Check.due(NO_INDEX, () -> b.defaultMonth(-1));
    }

    // ---- months

    private static void passMonths() {
        BenchBroker b = benchAndTenant(20);
        b.lease(0, 0, 3);
        Check.due(0, () -> b.passMonths(1));
        Check.due(10, () -> b.coinsOf(0));
        Check.due(5, () -> b.brokerCoins());
        Check.due(2, () -> b.monthsLeft(0));
        Check.due(1, () -> b.passMonths(12));
        Check.due(5, () -> b.coinsOf(0));
        Check.due(15, () -> b.brokerCoins());
        Check.due(13, () -> b.month());
        Check.due(WRONG_NUMBER, () -> b.passMonths(0));
        Check.due(WRONG_NUMBER, () -> b.passMonths(13));
        Check.due(WRONG_NUMBER, () -> b.passMonths(LOWEST));
        Check.due(WRONG_NUMBER, () -> b.passMonths(HIGHEST));
        Check.due(13, () -> b.month());
    }

    /** Bench 0 will be loud and its tenant poor, bench 1 too dear for its tenant, bench 2 is paid to the end. */
    private static BenchBroker threeEnds() {
        BenchBroker b = new BenchBroker();
        b.addBench(0, 0, 5);
        b.addBench(5, 5, 6);
        b.addBench(5, 0, 4);
        b.addTenant(5);
        b.addTenant(12);
        b.addTenant(8);
        b.lease(0, 0, 9);
        b.lease(1, 1, 9);
        b.lease(2, 2, 1);
        b.addFountain(0, 1, 6);
        return b;
    }

    private static void passMonthsEndsLeases() {
        BenchBroker b = threeEnds();
        Check.due(2, () -> b.passMonths(1));
        Check.due(1, () -> b.terminatedLeases());
        Check.due(5, () -> b.coinsOf(0));
        Check.due(0, () -> b.defaultsOf(0));
        Check.due(1, () -> b.completedLeases());
        Check.due(4, () -> b.coinsOf(2));
        Check.due(10, () -> b.brokerCoins());
        Check.due(1, () -> b.passMonths(1));
        Check.due(1, () -> b.defaultedLeases());
        Check.due(1, () -> b.defaultsOf(1));
        Check.due(0, () -> b.coinsOf(1));
        Check.due(16, () -> b.brokerCoins());
        Check.due(0, () -> b.passMonths(12));
        Check.due(3, () -> threeEnds().passMonths(2));
    }

    private static void month() {
        BenchBroker b = new BenchBroker();
        b.passMonths(12);
        b.passMonths(1);
        Check.due(13, () -> b.month());
        b.undo();
        Check.due(12, () -> b.month());
    }

    private static void incomes() {
        BenchBroker b = threeEnds();
        int[] due = {10, 16, 16, 16, 16, 16, 16, 16, 16, 16, 16, 16};
        for (int months = 1; months <= 12; months++) {
            int term = months;
            Check.due(due[term - 1], () -> b.incomeWithin(term));
            Check.due(due[term - 1], () -> b.incomeByLeases(term));
        }
        Check.due(0, () -> b.brokerCoins());
        Check.due(0, () -> b.month());
        b.switchFountain(0);
        b.giveCoins(0, 17);
        Check.due(15, () -> b.incomeWithin(1));
        Check.due(15, () -> b.incomeByLeases(1));
        Check.due(15 + 16, () -> b.incomeWithin(3));
        Check.due(15 + 16, () -> b.incomeByLeases(3));
        Check.due(15 + 5 + 16, () -> b.incomeWithin(4));
        Check.due(15 + 5 + 16, () -> b.incomeByLeases(4));
        Check.due(15 + 5 + 16, () -> b.incomeWithin(12));
        Check.due(15 + 5 + 16, () -> b.incomeByLeases(12));
    }

    private static void incomesOfWrongMonths() {
        BenchBroker b = threeEnds();
        for (int months : new int[] {0, 13, -1, LOWEST, HIGHEST}) {
            Check.due(WRONG_NUMBER, () -> b.incomeWithin(months));
            Check.due(WRONG_NUMBER, () -> b.incomeByLeases(months));
        }
    }

    // ---- totals and orders

    private static void brokerCoins() {
        BenchBroker b = benchAndTenant(20);
        b.lease(0, 0, 12);
        Check.due(0, () -> b.brokerCoins());
        b.passMonths(3);
        Check.due(15, () -> b.brokerCoins());
        b.passMonths(1);
        Check.due(20, () -> b.brokerCoins());
    }

    private static void depositTotal() {
        BenchBroker b = benchAndTenant(20);
        b.addBench(1, 1, 7);
        b.addTenant(10);
        b.lease(0, 0, 1);
        b.lease(1, 1, 2);
        Check.due(12, () -> b.depositTotal());
        b.passMonths(1);
        Check.due(0, () -> b.depositTotal());
    }

    private static void allCoins() {
        BenchBroker b = benchAndTenant(20);
        b.addTenant(7);
        b.giveCoins(1, 3);
        b.lease(0, 0, 6);
        b.passMonths(1);
        Check.due(30, () -> b.allCoins());
        Check.due(30, () -> b.allCoinsGiven());
        b.passMonths(5);
        Check.due(30, () -> b.allCoins());
        Check.due(30, () -> b.allCoinsGiven());
        b.giveCoins(0, 99);
        Check.due(129, () -> b.allCoins());
        Check.due(129, () -> b.allCoinsGiven());
    }

    private static void defaultedLeases() {
        BenchBroker b = benchAndTenant(8);
        b.lease(0, 0, 2);
        Check.due(0, () -> b.defaultedLeases());
        Check.due(1, () -> b.passMonths(1));
        Check.due(1, () -> b.defaultedLeases());
        Check.due(3, () -> b.coinsOf(0));
        Check.due(5, () -> b.brokerCoins());
        Check.due(0, () -> b.terminatedLeases() + b.completedLeases());
    }

    private static void terminatedLeases() {
        BenchBroker b = benchAndTenant(8);
        b.lease(0, 0, 2);
        b.addFountain(0, 1, 6);
        Check.due(0, () -> b.terminatedLeases());
        Check.due(1, () -> b.passMonths(1));
        Check.due(1, () -> b.terminatedLeases());
        Check.due(8, () -> b.coinsOf(0));
        Check.due(0, () -> b.brokerCoins());
        Check.due(0, () -> b.defaultedLeases() + b.completedLeases());
    }

    private static void completedLeases() {
        BenchBroker b = benchAndTenant(15);
        b.lease(0, 0, 2);
        b.passMonths(1);
        Check.due(0, () -> b.completedLeases());
        Check.due(1, () -> b.passMonths(1));
        Check.due(1, () -> b.completedLeases());
        Check.due(5, () -> b.coinsOf(0));
        Check.due(10, () -> b.brokerCoins());
        Check.due(0, () -> b.defaultedLeases() + b.terminatedLeases());
    }

    private static void benchByRent() {
        BenchBroker b = new BenchBroker();
        Check.due(NO_ELEMENT, () -> b.benchByRent(0));
        b.addBench(0, 0, 5);
        b.addBench(0, 1, 5);
        b.addBench(0, 2, 5);
        b.addBench(5, 5, 9);
        b.addBench(5, 4, 1);
        b.addTenant(50);
        b.lease(0, 0, 2);
        int[] due = {4, 1, 2, 0, 3};
        for (int position = 0; position < due.length; position++) {
            int at = position;
            Check.due(due[at], () -> b.benchByRent(at));
        }
        b.addFountain(4, 5, 9);
        b.setRent(3, 12);
        Check.due(4, () -> b.benchByRent(0));
        Check.due(1, () -> b.benchByRent(1));
        Check.due(2, () -> b.benchByRent(2));
        Check.due(3, () -> b.benchByRent(3));
        Check.due(0, () -> b.benchByRent(4));
        Check.due(NO_ELEMENT, () -> b.benchByRent(5));
        Check.due(NO_ELEMENT, () -> b.benchByRent(-1));
        Check.due(NO_ELEMENT, () -> b.benchByRent(HIGHEST));
    }

    private static void tenantByCoins() {
        BenchBroker b = new BenchBroker();
        Check.due(NO_ELEMENT, () -> b.tenantByCoins(0));
        b.addBench(0, 0, 5);
        b.addTenant(5);
        b.addTenant(7);
        b.addTenant(7);
        b.addTenant(9);
        b.addTenant(0);
        b.lease(0, 0, 2);
        b.passMonths(1);
        b.giveCoins(0, 7);
        int[] due = {3, 1, 2, 0, 4};
        for (int position = 0; position < due.length; position++) {
            int at = position;
            Check.due(due[at], () -> b.tenantByCoins(at));
        }
        Check.due(NO_ELEMENT, () -> b.tenantByCoins(5));
        Check.due(NO_ELEMENT, () -> b.tenantByCoins(-1));
        Check.due(NO_ELEMENT, () -> b.tenantByCoins(LOWEST));
    }

    private static void meanRent() {
        BenchBroker b = new BenchBroker();
        Check.due(NO_MEAN, () -> b.meanRent());
        b.addBench(0, 0, 5);
        b.addBench(0, 1, 6);
        Check.due(11.0 / 2.0, () -> b.meanRent());
        b.addBench(5, 5, 9);
        b.addFountain(5, 4, 4);
        Check.due(18.0 / 3.0, () -> b.meanRent());
        b.setRent(0, 6);
        Check.due(19.0 / 3.0, () -> b.meanRent());
    }

    private static void letShare() {
        BenchBroker b = new BenchBroker();
        Check.due(NO_MEAN, () -> b.letShare());
        b.addBench(0, 0, 5);
        Check.due(0.0f, () -> b.letShare());
        b.addTenant(5);
        b.lease(0, 0, 1);
        Check.due(1.0f, () -> b.letShare());
        b.addBench(0, 1, 5);
        b.addBench(0, 2, 5);
        Check.due(1.0f / 3.0f, () -> b.letShare());
    }

    private static void isConsistent() {
        BenchBroker b = threeEnds();
        b.setRent(2, 1);
        Check.due(true, () -> b.isConsistent());
        int before = b.incomeWithin(12);
        Check.due(true, () -> b.isConsistent());
        Check.due(before, () -> b.incomeWithin(12));
        Check.due(0, () -> b.month());
        Check.due(0, () -> b.brokerCoins());
        b.passMonths(2);
        b.giveCoins(0, 9);
        b.undo();
        Check.due(true, () -> b.isConsistent());
    }

    // ---- text output

    private static void writeBench() {
        BenchBroker b = new BenchBroker();
        b.addBench(3, 3, 5);
        b.addBench(4, 4, 5);
        b.addBench(0, 5, 8);
        b.addFountain(0, 4, 3);
        b.addTenant(1);
        b.addTenant(1);
        b.addTenant(1);
        b.addTenant(19);
        b.lease(3, 2, 12);
        Check.due("2@0,5$7~1=3/12", () -> Check.output(b, b.writeBench(2)));
        Check.due("0@3,3$5~0", () -> Check.output(b, b.writeBench(0)));
        Check.due(9, () -> b.writeBench(1));
        Check.due(NO_INDEX, () -> b.outputAt(9));
        Check.due(NO_INDEX, () -> b.writeBench(3));
        Check.due(NO_INDEX, () -> b.writeBench(-1));
        Check.due("1@4,4$5~0", () -> Check.output(b, 9));
        b.setNoiseLimit(20);
        b.setRent(2, 20);
        b.setLoudness(0, 9);
        b.addFountain(1, 5, 9);
        Check.due("2@0,5$6~14=3/12", () -> Check.output(b, b.writeBench(2)));
        b.switchFountain(1);
        b.setLoudness(0, 8);
        Check.due("2@0,5$14~6=3/12", () -> Check.output(b, b.writeBench(2)));
    }

    private static void writeRow() {
        BenchBroker b = new BenchBroker();
        for (int column = 0; column < 6; column++) {
            b.addBench(5, column, 5);
        }
        b.addBench(0, 5, 5);
        b.addBench(0, 0, 5);
        b.addBench(3, 3, 5);
        b.addBench(0, 2, 5);
        b.addFountain(0, 1, 2);
        b.addFountain(0, 3, 2);
        b.switchFountain(1);
        Check.due("7F9f.6", () -> Check.output(b, b.writeRow(0)));
        Check.due("012345", () -> Check.output(b, b.writeRow(5)));
        Check.due("...8..", () -> Check.output(b, b.writeRow(3)));
        Check.due(6, () -> b.writeRow(1));
        Check.due(NO_INDEX, () -> b.writeRow(6));
        Check.due(NO_INDEX, () -> b.writeRow(-1));
        Check.due("......", () -> Check.output(b, 6));
        Check.due(NO_INDEX, () -> b.outputAt(6));
    }

    private static void outputAt() {
        BenchBroker b = new BenchBroker();
        Check.due(NO_INDEX, () -> b.outputAt(0));
        b.addBench(0, 0, 5);
        b.writeBench(0);
        Check.due('0', () -> b.outputAt(0));
        Check.due('@', () -> b.outputAt(1));
        Check.due('0', () -> b.outputAt(8));
        Check.due(NO_INDEX, () -> b.outputAt(9));
        Check.due(NO_INDEX, () -> b.outputAt(-1));
        Check.due(NO_INDEX, () -> b.outputAt(HIGHEST));
        b.writeRow(0);
        Check.due(NO_INDEX, () -> b.outputAt(6));
    }

    // ---- commands

    private static void appendInput() {
        BenchBroker b = new BenchBroker();
        Check.due(WRONG_NUMBER, () -> b.appendInput((char) 31));
        Check.due(WRONG_NUMBER, () -> b.appendInput((char) 127));
        Check.due(WRONG_NUMBER, () -> b.appendInput((char) 0));
        Check.due(WRONG_NUMBER, () -> b.appendInput((char) 65535));
        Check.due(1, () -> b.appendInput((char) 32));
        Check.due(2, () -> b.appendInput((char) 126));
        for (int length = 3; length <= 60; length++) {
            Check.due(length, () -> b.appendInput('a'));
        }
        Check.due(WRONG_STATE, () -> b.appendInput('a'));
        Check.due(WRONG_NUMBER, () -> b.appendInput((char) 31));
    }

    private static void executeEachCommand() {
        BenchBroker b = new BenchBroker();
        Check.due(3, () -> Check.execute(b, "bench 0 5 9;bench 5 0 20;fountain 0 4 4"));
        Check.due(5, () -> b.columnOf(0));
        Check.due(0, () -> b.rowOf(0));
        Check.due(9, () -> b.baseRent(0));
        Check.due(20, () -> b.baseRent(1));
        Check.due(4, () -> b.noiseAt(0, 4));
        Check.due(3, () -> Check.execute(b, "tenant 0;tenant 50;give 0 07"));
        Check.due(7, () -> b.coinsOf(0));
        Check.due(50, () -> b.coinsOf(1));
        Check.due(2, () -> Check.execute(b, "lease 1 0 10;renew 0 2"));
        Check.due(12, () -> b.monthsLeft(0));
        Check.due(1, () -> b.tenantOf(0));
        Check.due(1, () -> Check.execute(b, "pass 10"));
        Check.due(10, () -> b.month());
        Check.due(1, () -> b.defaultedLeases());
        Check.due(3, () -> Check.execute(b, "switch 0;limit 20;pass 2"));
        Check.due(false, () -> b.isRunning(0));
        Check.due(20, () -> b.noiseLimit());
        Check.due(4, () -> Check.execute(b, "give 1 40;lease 1 0 1;end 0;limit 0"));
        Check.due(false, () -> b.isLet(0));
        Check.due(0, () -> b.noiseLimit());
        Check.due(8, () -> Check.execute(b, "pass 1;pass 1;pass 1;pass 1;pass 1;pass 1;pass 1;limit 01"));
        Check.due(19, () -> b.month());
        Check.due(1, () -> b.noiseLimit());
    }

    private static void executeAllOrNone() {
        BenchBroker b = new BenchBroker();
        Check.due(REJECTED, () -> Check.execute(b, "tenant 1;bench 0 0 5;lease 0 0 1"));
        Check.due(BenchBroker.COMMAND_REJECTED, () -> b.rejectionReason());
        Check.due(2, () -> b.rejectionDetail());
        Check.due(BenchBroker.TOO_POOR, () -> b.causeReason());
        Check.due(0, () -> b.tenantCount() + b.benchCount() + b.allCoinsGiven());
        Check.due(WRONG_STATE, () -> b.undo());
        Check.due(WRONG_STATE, () -> Check.execute(b, "tenant 1;pass 3;bench 0 6 5"));
        Check.due(0, () -> b.tenantCount() + b.month());
        Check.due(WRONG_NUMBER, () -> Check.execute(b, "tenant 1;pass 3;bench 0 5"));
        Check.due(0, () -> b.tenantCount() + b.month());
        Check.due(WRONG_STATE, () -> b.undo());
        Check.due(2, () -> Check.execute(b, "tenant 1;pass 3"));
        Check.due(0, () -> b.undo());
        Check.due(0, () -> b.tenantCount() + b.month());
    }

    private static void executeWrongArguments() {
        BenchBroker b = benchAndTenant(20);
        b.addFountain(3, 3, 1);
        String[] wrong = {"bench 6 0 5", "bench 0 6 5", "bench 1 1 0", "bench 1 1 21", "fountain 6 0 5",
            "fountain 0 9 5", "fountain 1 1 0", "give 1 5", "give 0 0", "lease 1 0 1", "lease 0 1 1",
            "lease 0 0 13", "lease 0 0 0", "end 1", "renew 1 1", "renew 0 13", "switch 1", "limit 21",
            "pass 0", "pass 13", "pass 00", "bench 0 0 21"};
        for (String text : wrong) {
            Check.due(WRONG_STATE, () -> Check.execute(b, text));
        }
        Check.due(NO_ELEMENT, () -> b.rejectionReason());
        Check.due(NO_ELEMENT, () -> b.syntaxErrorOffset());
    }

    private static void executeEmptiesInput() {
        BenchBroker b = new BenchBroker();
        for (String text : new String[] {"pass 1", "pass 13", "pass", "end 0", "bench 0 0 1;end 0"}) {
            Check.type(b, text);
            Check.answerOf(() -> b.execute());
            Check.due(1, () -> b.appendInput('q'));
            Check.due(WRONG_NUMBER, () -> b.execute());
            Check.due(0, () -> b.syntaxErrorOffset());
        }
    }

    private static void executeFirstException() {
        BenchBroker b = new BenchBroker();
        Check.due(WRONG_NUMBER, () -> Check.execute(b, "pass 13;end 0;x"));
        Check.due(14, () -> b.syntaxErrorOffset());
        b.addBench(0, 0, 5);
        Check.due(REJECTED, () -> Check.execute(b, "end 0;pass 13"));
        Check.due(0, () -> b.rejectionDetail());
        Check.due(BenchBroker.NOT_LET, () -> b.causeReason());
        Check.due(WRONG_STATE, () -> Check.execute(b, "bench 1 1 5;pass 13;end 0"));
        Check.due(0, () -> b.rejectionDetail());
        Check.due(REJECTED, () -> Check.execute(b, "bench 1 1 5;bench 1 1 5"));
        Check.due(1, () -> b.rejectionDetail());
        Check.due(BenchBroker.CELL_TAKEN, () -> b.causeReason());
    }

    private static void syntaxErrorOffset() {
        BenchBroker b = new BenchBroker();
        Check.due(NO_ELEMENT, () -> b.syntaxErrorOffset());
        String[] texts = {"", "q", " pass 1", "b", "bench", "bench 0", "bench 0 0 ", "bench 0 0 123", "l", "le", "li",
            "lx", "lease 0 0", "end 12", "tenant 5;", "tenant 5;;", "fountain 0 0 12", "pass 1 ", "pass 1; pass 1",
            "pass  1", "pass x", "pass 1x", "bench 00 0 5", "Pass 1", "switch 0;switch", "limit 2;tenant 3;lint",
            "switch 00", "fountain 0 0 1 ", "give 0", "renew 1 ", "limit 007", "end 0x", "pass 1,pass 1"};
        int[] offsets = {0, 0, 0, 1, 5, 7, 10, 12, 1, 2, 2,
            1, 9, 5, 9, 9, 14, 6, 7,
            5, 5, 6, 7, 0, 15, 19,
            8, 14, 6, 8, 8, 5, 6};
        for (int i = 0; i < texts.length; i++) {
            String text = texts[i];
            Check.due(WRONG_NUMBER, () -> Check.execute(b, text));
            Check.due(offsets[i], () -> b.syntaxErrorOffset());
        }
        Check.execute(b, "pass 1");
        Check.due(6, () -> b.syntaxErrorOffset());
        String full = "pass 11;pass 11;pass 11;pass 11;pass 11;pass 11;pass 11;tena";
        Check.due(WRONG_NUMBER, () -> Check.execute(b, full));
        Check.due(60, () -> b.syntaxErrorOffset());
    }

    // ---- rejections and history

    private static void rejectionReason() {
        BenchBroker b = new BenchBroker();
        Check.due(NO_ELEMENT, () -> b.rejectionReason());
        b.addBench(0, 0, 5);
        Check.due(REJECTED, () -> b.endLease(0));
        Check.due(BenchBroker.NOT_LET, () -> b.rejectionReason());
        b.addBench(0, 1, 5);
        Check.due(NO_INDEX, () -> b.endLease(5));
        Check.due(BenchBroker.NOT_LET, () -> b.rejectionReason());
        Check.due(REJECTED, () -> b.addBench(0, 1, 5));
        Check.due(BenchBroker.CELL_TAKEN, () -> b.rejectionReason());
        b.undo();
        Check.due(BenchBroker.CELL_TAKEN, () -> b.rejectionReason());
    }

    private static void rejectionDetail() {
        BenchBroker b = new BenchBroker();
        Check.due(NO_ELEMENT, () -> b.rejectionDetail());
        b.addBench(0, 0, 5);
        Check.due(REJECTED, () -> b.addBench(0, 0, 5));
        Check.due(0, () -> b.rejectionDetail());
        b.addBench(0, 1, 5);
        Check.due(REJECTED, () -> b.renew(1, 5));
        Check.due(1, () -> b.rejectionDetail());
        Check.due(WRONG_NUMBER, () -> b.renew(0, 13));
        Check.due(1, () -> b.rejectionDetail());
    }

    private static void causeReason() {
        BenchBroker b = benchAndTenant(3);
        Check.due(NO_ELEMENT, () -> b.causeReason());
        Check.due(REJECTED, () -> Check.execute(b, "pass 1;end 0"));
        Check.due(BenchBroker.NOT_LET, () -> b.causeReason());
        Check.due(1, () -> b.rejectionDetail());
        Check.due(WRONG_STATE, () -> Check.execute(b, "pass 13"));
        Check.due(WRONG_NUMBER, () -> Check.execute(b, "pass"));
        Check.due(BenchBroker.NOT_LET, () -> b.causeReason());
        Check.due(REJECTED, () -> b.lease(0, 0, 1));
        Check.due(NO_ELEMENT, () -> b.causeReason());
        Check.due(BenchBroker.TOO_POOR, () -> b.rejectionReason());
        Check.due(REJECTED, () -> Check.execute(b, "lease 0 0 1"));
        Check.due(BenchBroker.TOO_POOR, () -> b.causeReason());
        Check.due(0, () -> b.rejectionDetail());
        Check.due(BenchBroker.COMMAND_REJECTED, () -> b.rejectionReason());
    }

    private static void undo() {
        BenchBroker b = new BenchBroker();
        for (int i = 0; i < 10; i++) {
            b.addBench(i / 6, i % 6, 5);
        }
        for (int left = 7; left >= 5; left--) {
            int due = left;
            Check.due(due, () -> b.undo());
        }
        Check.due(7, () -> b.benchCount());
        b.addBench(5, 5, 9);
        Check.due(8, () -> b.benchCount());
        for (int left = 5; left >= 0; left--) {
            int due = left;
            Check.due(due, () -> b.undo());
        }
        Check.due(2, () -> b.benchCount());
        Check.due(WRONG_STATE, () -> b.undo());
        Check.due(2, () -> b.benchCount());
        b.addBench(5, 5, 9);
        Check.due(0, () -> b.undo());
        Check.due(2, () -> b.benchCount());
    }

    private static void undoEachChange() {
        List<Function<BenchBroker, Object>> changes = List.of(
            b -> b.addBench(3, 3, 5), b -> b.setRent(0, 9), b -> b.setRent(0, 5), b -> b.addFountain(3, 3, 9),
            b -> b.setLoudness(0, 9), b -> b.setLoudness(0, 6), b -> b.switchFountain(0), b -> b.setNoiseLimit(0),
            b -> b.setNoiseLimit(4), b -> b.addTenant(9), b -> b.giveCoins(1, 9), b -> b.endLease(0),
            b -> b.renew(0, 3), b -> b.passMonths(3), b -> Check.execute(b, "end 0;lease 0 0 3;pass 2"));
        for (Function<BenchBroker, Object> change : changes) {
            // A new object for each, as nothing is promised of more than 512 calls.
            BenchBroker b = threeEnds();
            b.setNoiseLimit(4);
            String before = observe(b);
            change.apply(b);
            Check.due(7, () -> b.undo());
            Check.due(before, () -> observe(b));
        }
    }

    private static void undoNoChange() {
        BenchBroker b = benchAndTenant(20);
        b.incomeWithin(12);
        b.isConsistent();
        b.writeRow(0);
        b.appendInput('x');
        b.saveSnapshot();
        Check.answerOf(() -> b.execute());
        Check.answerOf(() -> b.addBench(0, 0, 5));
        Check.answerOf(() -> b.addBench(0, 0, 50));
        Check.answerOf(() -> b.lease(0, 5, 5));
        Check.due(1, () -> b.undo());
        Check.due(0, () -> b.undo());
        Check.due(WRONG_STATE, () -> b.undo());
    }

    private static void undoDoesNotCover() {
        BenchBroker b = new BenchBroker();
        b.addBench(0, 0, 5);
        b.writeBench(0);
        Check.answerOf(() -> b.addBench(0, 0, 5));
        Check.answerOf(() -> Check.execute(b, "pass"));
        b.saveSnapshot();
        Check.type(b, "pass ");
        b.undo();
        Check.due("0@0,0$5~0", () -> Check.output(b, 9));
        Check.due(BenchBroker.CELL_TAKEN, () -> b.rejectionReason());
        Check.due(4, () -> b.syntaxErrorOffset());
        Check.due(6, () -> b.appendInput('1'));
        Check.due(1, () -> b.execute());
        Check.due(1, () -> b.restoreSnapshot());
    }

    private static void saveSnapshot() {
        BenchBroker b = new BenchBroker();
        Check.due(0, () -> b.saveSnapshot());
        b.addBench(0, 0, 5);
        b.addBench(0, 1, 5);
        Check.due(2, () -> b.saveSnapshot());
        Check.due(1, () -> b.undo());
        b.undo();
        Check.due(0, () -> b.benchCount());
        Check.due(2, () -> b.restoreSnapshot());
    }

    private static void restoreSnapshot() {
        BenchBroker b = new BenchBroker();
        b.addBench(0, 0, 5);
        Check.due(WRONG_STATE, () -> b.restoreSnapshot());
        Check.due(0, () -> b.undo());
        b.addBench(0, 0, 7);
        b.saveSnapshot();
        b.addBench(0, 1, 5);
        b.setRent(0, 9);
        Check.due(1, () -> b.restoreSnapshot());
        Check.due(7, () -> b.baseRent(0));
        Check.due(WRONG_STATE, () -> b.undo());
        b.setRent(0, 3);
        Check.due(1, () -> b.restoreSnapshot());
        Check.due(7, () -> b.baseRent(0));
        Check.due(WRONG_STATE, () -> b.undo());
        b.setRent(0, 3);
        Check.due(0, () -> b.undo());
        Check.due(7, () -> b.baseRent(0));
    }

    private static void restoreSnapshotWhole() {
        BenchBroker b = threeEnds();
        b.passMonths(1);
        b.giveCoins(2, 9);
        b.setNoiseLimit(9);
        String before = observe(b);
        b.saveSnapshot();
        b.switchFountain(0);
        b.setLoudness(0, 1);
        b.addFountain(3, 3, 3);
        b.addBench(4, 4, 4);
        b.addTenant(77);
        b.lease(0, 3, 3);
        b.passMonths(12);
        b.setNoiseLimit(1);
        b.restoreSnapshot();
        Check.due(before, () -> observe(b));
        Check.due(true, () -> b.isConsistent());
    }

    /** Everything that undo and the snapshot cover. */
    private static String observe(BenchBroker b) {
        StringBuilder seen = new StringBuilder();
        for (int bench = 0; bench < b.benchCount(); bench++) {
            int index = bench;
            seen.append(Check.output(b, b.writeBench(bench))).append(' ').append(b.baseRent(bench));
            seen.append(' ').append(Check.answerOf(() -> b.depositOf(index))).append('\n');
        }
        for (int fountain = 0; fountain < b.fountainCount(); fountain++) {
            seen.append(b.loudnessOf(fountain)).append(b.isRunning(fountain)).append('\n');
        }
        for (int row = 0; row < 6; row++) {
            seen.append(Check.output(b, b.writeRow(row))).append('\n');
        }
        for (int tenant = 0; tenant < b.tenantCount(); tenant++) {
            seen.append(b.coinsOf(tenant)).append(' ').append(b.defaultsOf(tenant)).append('\n');
        }
        seen.append(b.noiseLimit()).append(' ').append(b.month()).append(' ').append(b.brokerCoins()).append(' ');
        seen.append(b.allCoinsGiven()).append(' ').append(b.defaultedLeases()).append(' ');
        seen.append(b.terminatedLeases()).append(' ').append(b.completedLeases());
        return seen.toString();
    }
}
