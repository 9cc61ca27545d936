/** The edges of the park, its noise, its benches and its fountains: the terms, and the promises 1 to 20. */
public final class ParkEdgesTest {
    // A row or column times six that fits into 32 bits by a wrap-around alone.
    private static final int WRAPS_TO_TWO = 715827883;

    public static void main(String[] args) {
        cells();
        noise();
        limits();
        newObject();
        addBench();
        setRent();
        addFountain();
        setLoudness();
        switchFountain();
        setNoiseLimit();
        counts();
        indices();
        Check.finish();
    }

    // ---- the terms

    private static void cells() {
        String[] calls = {"addBench R C 5", "addFountain R C 5", "noiseAt R C", "noiseBySpreading R C"};
        String[] wrong = {"-1 0", "6 0", "0 -1", "0 6", "-1 -1", "6 6", "1 -1", "-1 6", "6 -1", "5 6", "0 36",
            "MIN 0", "MAX 0", "0 MIN", "0 MAX", "MIN MAX", WRAPS_TO_TWO + " 0", "0 " + WRAPS_TO_TWO};
        for (String call : calls) {
            StringBuilder lines = new StringBuilder("addBench 2 2 5\naddFountain 3 3 9\n");
            for (String cell : wrong) {
                lines.append(call.replace("R C", cell)).append(" -> throws IndexOutOfBounds\n");
            }
            Script.test("Park: there is no cell beside the 6 rows and 6 columns, " + call, lines.toString());
        }
        Script.test("Park: the corners are cells, both numbers from 0 to 5", """
            addBench 0 0 5 -> 0
            addBench 0 5 5 -> 1
            addFountain 5 0 1 -> 0
            addFountain 5 5 1 -> 1
            text writeRow 0 -> 0....1
            text writeRow 5 -> F....F
            noiseAt 5 5 -> 1
            noiseBySpreading 5 5 -> 1
            noiseAt 5 0 -> 1
            noiseBySpreading 5 0 -> 1
            """);
        Script.test("Park: the row comes ahead of the column", """
            addBench 1 4 5 -> 0
            addFountain 2 5 3 -> 0
            rowOf 0 -> 1
            columnOf 0 -> 4
            noiseAt 2 5 -> 3
            noiseAt 5 2 -> 0
            noiseBySpreading 2 5 -> 3
            noiseBySpreading 5 2 -> 0
            """);
        Script.test("Park: a cell holds at most one bench or fountain", """
            addBench 0 0 5 -> 0
            addFountain 0 1 5 -> 0
            addBench 0 0 6 -> rejected CELL_TAKEN 0
            addBench 0 1 6 -> rejected CELL_TAKEN 10
            addFountain 0 0 6 -> rejected CELL_TAKEN 0
            addFountain 0 1 6 -> rejected CELL_TAKEN 10
            text writeRow 0 -> 0F....
            addBench 1 0 6 -> 1
            addFountain 1 1 6 -> 1
            text writeRow 1 -> 1F....
            """);
        Script.test("Park: a fountain that is off still holds its cell", """
            addFountain 4 4 5
            switchFountain 0 -> false
            addBench 4 4 5 -> rejected CELL_TAKEN 10
            addFountain 4 4 5 -> rejected CELL_TAKEN 10
            text writeRow 4 -> ....f.
            """);
        Script.test("Park: a cell is free again after an undo", """
            addBench 4 4 5
            undo -> 0
            addFountain 4 4 5 -> 0
            undo -> 0
            addBench 4 4 5 -> 0
            """);
    }

    private static void noise() {
        for (int loudness = 1; loudness <= 9; loudness++) {
            for (int source : new int[] {0, 5, 30, 35, 14, 21}) {
                int loud = loudness;
                Check.test("Noise: loudness " + loud + " at the cell " + source, () -> oneFountain(loud, source));
            }
        }
        Script.test("Noise: at least 0, and a noise below 0 takes nothing from another", """
            addFountain 0 0 4
            noiseAt 0 1 -> 2
            noiseAt 0 2 -> 0
            noiseAt 0 3 -> 0
            noiseBySpreading 0 1 -> 2
            noiseBySpreading 0 2 -> 0
            noiseBySpreading 0 3 -> 0
            addFountain 0 4 5
            noiseAt 0 0 -> 4
            noiseAt 0 1 -> 2
            noiseAt 0 2 -> 1
            noiseAt 0 3 -> 3
            noiseBySpreading 0 0 -> 4
            noiseBySpreading 0 1 -> 2
            noiseBySpreading 0 2 -> 1
            noiseBySpreading 0 3 -> 3
            """);
        Script.test("Noise: the sum of all running fountains, from none to 4", """
            noiseAt 2 2 -> 0
            noiseBySpreading 2 2 -> 0
            addFountain 1 2 9
            noiseAt 2 2 -> 7
            addFountain 3 2 9
            addFountain 2 1 9
            addFountain 2 3 9
            noiseAt 2 2 -> 28
            noiseBySpreading 2 2 -> 28
            noiseAt 1 2 -> 24
            noiseBySpreading 1 2 -> 24
            switchFountain 3 -> false
            noiseAt 2 2 -> 21
            noiseBySpreading 2 2 -> 21
            switchFountain 0 -> false
            switchFountain 1 -> false
            noiseAt 2 2 -> 7
            noiseBySpreading 2 2 -> 7
            switchFountain 2 -> false
            noiseAt 2 2 -> 0
            noiseBySpreading 2 2 -> 0
            switchFountain 3 -> true
            noiseAt 2 2 -> 7
            noiseBySpreading 2 2 -> 7
            """);
        Script.test("Promise 18: noise spreads to neighbouring cells alone, not round the edge of the park", """
            addFountain 0 5 9
            noiseBySpreading 1 0 -> 0
            noiseBySpreading 0 0 -> 0
            noiseBySpreading 5 5 -> 0
            noiseBySpreading 0 1 -> 1
            noiseBySpreading 1 5 -> 7
            noiseBySpreading 1 4 -> 5
            addFountain 5 0 9
            noiseBySpreading 4 5 -> 1
            noiseBySpreading 4 0 -> 7
            noiseBySpreading 0 0 -> 0
            """);
        Script.test("Promise 18: noise passes over benches and fountains", """
            addFountain 0 0 9
            addBench 0 1 5
            addBench 1 0 5
            addFountain 1 1 1
            addFountain 0 2 1
            switchFountain 2
            noiseBySpreading 0 1 -> 7
            noiseBySpreading 1 1 -> 6
            noiseBySpreading 0 2 -> 5
            noiseBySpreading 2 2 -> 1
            noiseBySpreading 2 3 -> 0
            """);
    }

    /** Both ways to the noise of each cell, beside the words of the document. */
    private static void oneFountain(int loudness, int source) {
        BenchBroker b = new BenchBroker();
        b.addFountain(source / 6, source % 6, loudness);
        for (int cell = 0; cell < 36; cell++) {
            int row = cell / 6;
            int column = cell % 6;
            int distance = Math.abs(row - source / 6) + Math.abs(column - source % 6);
            int due = Math.max(0, loudness - 2 * distance);
            Check.due(due, () -> b.noiseAt(row, column));
            Check.due(due, () -> b.noiseBySpreading(row, column));
        }
    }

    private static void limits() {
        Script.test("Noise: there are at most 4 fountains, numbered from 0 as they are added", """
            addFountain 0 0 1 -> 0
            addFountain 0 1 2 -> 1
            addFountain 0 2 3 -> 2
            fountainCount -> 3
            addFountain 0 3 4 -> 3
            fountainCount -> 4
            addFountain 0 4 5 -> rejected FOUNTAIN_LIMIT 4
            fountainCount -> 4
            loudnessOf 0 -> 1
            loudnessOf 3 -> 4
            loudnessOf 4 -> throws IndexOutOfBounds
            """);
        Script.test("Noise: fountains that are off count among the 4", Script.fountains(4) + """
            switchFountain 0
            switchFountain 3
            addFountain 0 0 5 -> rejected FOUNTAIN_LIMIT 4
            undo -> 5
            undo -> 4
            undo -> 3
            addFountain 0 0 5 -> 3
            addFountain 0 1 5 -> rejected FOUNTAIN_LIMIT 4
            """);
        Script.test("Noise: the noise limit is 3 at first", """
            noiseLimit -> 3
            addBench 0 0 9
            addFountain 0 1 5
            noiseAt 0 0 -> 3
            isQuiet 0 -> true
            quietCount -> 1
            setLoudness 0 6
            noiseAt 0 0 -> 4
            isQuiet 0 -> false
            quietCount -> 0
            """);
        Script.test("Benches: there are at most 10 benches, numbered from 0 as they are added", Script.benches(8) + """
            addBench 4 4 1 -> 8
            benchCount -> 9
            addBench 2 0 2 -> 9
            benchCount -> 10
            addBench 5 5 3 -> rejected BENCH_LIMIT 10
            benchCount -> 10
            rowOf 8 -> 4
            rowOf 9 -> 2
            baseRent 0 -> 5
            baseRent 9 -> 2
            rowOf 10 -> throws IndexOutOfBounds
            undo -> 7
            addBench 5 5 3 -> 9
            """);
        Script.test("Benches: the rent is the base rent minus the noise, but at least 1", """
            addBench 2 2 9
            addFountain 2 3 9
            noiseAt 2 2 -> 7
            rentOf 0 -> 2
            setRent 0 8
            rentOf 0 -> 1
            setRent 0 7
            rentOf 0 -> 1
            setRent 0 6
            rentOf 0 -> 1
            setRent 0 1
            rentOf 0 -> 1
            baseRent 0 -> 1
            setRent 0 20
            rentOf 0 -> 13
            addFountain 1 2 9
            addFountain 3 2 8
            noiseAt 2 2 -> 20
            rentOf 0 -> 1
            setLoudness 2 7
            rentOf 0 -> 1
            setLoudness 2 6
            rentOf 0 -> 2
            setLoudness 2 9
            addFountain 2 1 9
            noiseAt 2 2 -> 28
            rentOf 0 -> 1
            baseRent 0 -> 20
            """);
        Script.test("Benches: rents without any noise are 1 to 20", """
            addBench 0 0 1
            addBench 0 1 20
            rentOf 0 -> 1
            rentOf 1 -> 20
            """);
        Script.test("Benches: a bench is quiet if its noise is not greater than the limit, which is 0 here", """
            setNoiseLimit 0
            addBench 0 0 9
            isQuiet 0 -> true
            addFountain 0 1 2
            noiseAt 0 0 -> 0
            isQuiet 0 -> true
            setLoudness 0 3
            noiseAt 0 0 -> 1
            isQuiet 0 -> false
            switchFountain 0
            isQuiet 0 -> true
            """);
        Script.test("Benches: a bench is quiet if its noise is not greater than the limit, which is 20 here", """
            setNoiseLimit 20
            addBench 2 2 9
            addFountain 1 2 9
            addFountain 3 2 9
            addFountain 2 1 8
            noiseAt 2 2 -> 20
            isQuiet 0 -> true
            quietCount -> 1
            setLoudness 2 9
            noiseAt 2 2 -> 21
            isQuiet 0 -> false
            quietCount -> 0
            """);
        Script.test("Promise 20: from no quiet bench to all", Script.benches(10) + """
            quietCount -> 10
            addFountain 2 0 6
            quietCount -> 9
            setNoiseLimit 0
            isQuiet 6 -> false
            quietCount -> 7
            setLoudness 0 9
            quietCount -> 3
            addFountain 2 4 9
            quietCount -> 0
            setNoiseLimit 20
            quietCount -> 10
            """);
        Script.test("Promise 20: without benches none is quiet", "quietCount -> 0");
    }

    // ---- promise 1

    private static void newObject() {
        Script.test("Promise 1: no benches, no fountains, no tenants", """
            benchCount -> 0
            fountainCount -> 0
            tenantCount -> 0
            noiseLimit -> 3
            quietCount -> 0
            month -> 0
            brokerCoins -> 0
            depositTotal -> 0
            allCoins -> 0
            allCoinsGiven -> 0
            defaultedLeases -> 0
            terminatedLeases -> 0
            completedLeases -> 0
            isConsistent -> true
            incomeWithin 1 -> 0
            incomeWithin 12 -> 0
            incomeByLeases 1 -> 0
            incomeByLeases 12 -> 0
            """);
        Script.test("Promise 1: what an empty park cannot answer", """
            rowOf 0 -> throws IndexOutOfBounds
            loudnessOf 0 -> throws IndexOutOfBounds
            coinsOf 0 -> throws IndexOutOfBounds
            canLease 0 0 -> throws IndexOutOfBounds
            benchByRent 0 -> throws NoSuchElement
            tenantByCoins 0 -> throws NoSuchElement
            meanRent -> throws Arithmetic
            letShare -> throws Arithmetic
            outputAt 0 -> throws IndexOutOfBounds
            syntaxErrorOffset -> throws NoSuchElement
            rejectionReason -> throws NoSuchElement
            rejectionDetail -> throws NoSuchElement
            causeReason -> throws NoSuchElement
            undo -> throws IllegalState
            restoreSnapshot -> throws IllegalState
            """);
        StringBuilder rows = new StringBuilder();
        for (int cell = 0; cell < 36; cell++) {
            rows.append("noiseAt ").append(cell / 6).append(' ').append(cell % 6).append(" -> 0\n");
        }
        for (int row = 0; row < 6; row++) {
            rows.append("text writeRow ").append(row).append(" -> ......\n");
        }
        Script.test("Promise 1: every cell is empty and without noise", rows.toString());
        Script.test("Promise 1: months pass in an empty park, and the input is empty", """
            passMonths 12 -> 0
            month -> 12
            appendInput 120 -> 1
            """);
    }

    // ---- promises 2 to 7

    private static void addBench() {
        Script.test("Promise 2: rent, 1 to 20", """
            addBench 0 0 1 -> 0
            addBench 0 1 20 -> 1
            addBench 0 2 0 -> throws IllegalArgument
            addBench 0 2 21 -> throws IllegalArgument
            addBench 0 2 -1 -> throws IllegalArgument
            addBench 0 2 MIN -> throws IllegalArgument
            addBench 0 2 MAX -> throws IllegalArgument
            benchCount -> 2
            baseRent 0 -> 1
            baseRent 1 -> 20
            addBench 0 2 2 -> 2
            """);
        Script.test("Promise 2: no such cell comes ahead of a wrong rent and of a rejection", Script.benches(10) + """
            addBench 6 0 0 -> throws IndexOutOfBounds
            addBench 0 -1 21 -> throws IndexOutOfBounds
            addBench 0 6 5 -> throws IndexOutOfBounds
            """);
        Script.test("Promise 2: a wrong rent comes ahead of CELL_TAKEN", """
            addBench 0 0 5
            addBench 0 0 21 -> throws IllegalArgument
            addBench 0 0 0 -> throws IllegalArgument
            addBench 0 0 20 -> rejected CELL_TAKEN 0
            """);
        Script.test("Promise 2: a wrong rent comes ahead of BENCH_LIMIT", Script.benches(10) + """
            addBench 5 5 0 -> throws IllegalArgument
            addBench 0 0 21 -> throws IllegalArgument
            addBench 5 5 20 -> rejected BENCH_LIMIT 10
            """);
        Script.test("Promise 2: BENCH_LIMIT comes ahead of CELL_TAKEN", Script.benches(9) + Script.fountains(4) + """
            addBench 0 0 5 -> rejected CELL_TAKEN 0
            addBench 1 2 5 -> rejected CELL_TAKEN 8
            addBench 5 0 5 -> rejected CELL_TAKEN 10
            addBench 5 3 5 -> rejected CELL_TAKEN 13
            addBench 4 4 5 -> 9
            addBench 0 0 5 -> rejected BENCH_LIMIT 10
            addBench 5 3 5 -> rejected BENCH_LIMIT 10
            addBench 4 5 5 -> rejected BENCH_LIMIT 10
            """);
    }

    private static void setRent() {
        Script.test("Promise 3: rent, 1 to 20", """
            addBench 0 0 5
            setRent 0 1 -> 5
            setRent 0 20 -> 1
            setRent 0 0 -> throws IllegalArgument
            setRent 0 21 -> throws IllegalArgument
            setRent 0 -1 -> throws IllegalArgument
            setRent 0 MIN -> throws IllegalArgument
            setRent 0 MAX -> throws IllegalArgument
            baseRent 0 -> 20
            setRent 0 20 -> 20
            """);
        Script.test("Promise 3: no such bench comes ahead of a wrong rent", """
            setRent 0 0 -> throws IndexOutOfBounds
            addBench 0 0 5
            setRent 1 0 -> throws IndexOutOfBounds
            setRent -1 21 -> throws IndexOutOfBounds
            setRent 0 21 -> throws IllegalArgument
            """);
        Script.test("Promise 3: the deposit does not change, and the previous base rent is no rent with noise", """
            addBench 0 0 10
            addFountain 0 1 5
            addTenant 50
            lease 0 0 3 -> 7
            setRent 0 20 -> 10
            depositOf 0 -> 7
            setRent 0 1 -> 20
            depositOf 0 -> 7
            endLease 0 -> 3
            """);
    }

    private static void addFountain() {
        Script.test("Promise 4: loudness, 1 to 9", """
            addFountain 0 0 1 -> 0
            addFountain 5 5 9 -> 1
            addFountain 3 3 0 -> throws IllegalArgument
            addFountain 3 3 10 -> throws IllegalArgument
            addFountain 3 3 -1 -> throws IllegalArgument
            addFountain 3 3 MIN -> throws IllegalArgument
            addFountain 3 3 MAX -> throws IllegalArgument
            fountainCount -> 2
            isRunning 0 -> true
            isRunning 1 -> true
            noiseAt 0 0 -> 1
            noiseAt 5 5 -> 9
            """);
        Script.test("Promise 4: no such cell, then a wrong loudness, then a rejection", Script.fountains(4) + """
            addFountain 6 0 0 -> throws IndexOutOfBounds
            addFountain 0 6 5 -> throws IndexOutOfBounds
            addFountain 5 0 0 -> throws IllegalArgument
            addFountain 0 0 10 -> throws IllegalArgument
            addFountain 0 0 9 -> rejected FOUNTAIN_LIMIT 4
            """);
        Script.test("Promise 4: a wrong loudness comes ahead of a taken cell", """
            addBench 0 0 5
            addFountain 0 0 10 -> throws IllegalArgument
            addFountain 0 0 0 -> throws IllegalArgument
            addFountain 0 0 1 -> rejected CELL_TAKEN 0
            """);
        Script.test("Promise 4: FOUNTAIN_LIMIT comes ahead of CELL_TAKEN",
            Script.benches(10) + Script.fountains(3) + """
            addFountain 0 0 5 -> rejected CELL_TAKEN 0
            addFountain 1 3 5 -> rejected CELL_TAKEN 9
            addFountain 5 0 5 -> rejected CELL_TAKEN 10
            addFountain 5 2 5 -> rejected CELL_TAKEN 12
            addFountain 5 5 5 -> 3
            addFountain 5 2 5 -> rejected FOUNTAIN_LIMIT 4
            addFountain 0 0 5 -> rejected FOUNTAIN_LIMIT 4
            addFountain 4 4 5 -> rejected FOUNTAIN_LIMIT 4
            """);
    }

    private static void setLoudness() {
        Script.test("Promise 5: loudness, 1 to 9", """
            addFountain 2 2 5
            setLoudness 0 1 -> 5
            noiseAt 2 2 -> 1
            setLoudness 0 9 -> 1
            setLoudness 0 0 -> throws IllegalArgument
            setLoudness 0 10 -> throws IllegalArgument
            setLoudness 0 -1 -> throws IllegalArgument
            setLoudness 0 MIN -> throws IllegalArgument
            setLoudness 0 MAX -> throws IllegalArgument
            loudnessOf 0 -> 9
            noiseAt 2 2 -> 9
            setLoudness 0 9 -> 9
            """);
        Script.test("Promise 5: no such fountain comes ahead of a wrong loudness", """
            setLoudness 0 0 -> throws IndexOutOfBounds
            addFountain 2 2 5
            setLoudness 1 10 -> throws IndexOutOfBounds
            setLoudness -1 0 -> throws IndexOutOfBounds
            setLoudness 0 10 -> throws IllegalArgument
            """);
        Script.test("Promise 5 and 14: the loudness of a fountain that is off", """
            addFountain 2 2 5
            switchFountain 0
            loudnessOf 0 -> 5
            setLoudness 0 9 -> 5
            loudnessOf 0 -> 9
            isRunning 0 -> false
            noiseAt 2 2 -> 0
            switchFountain 0 -> true
            noiseAt 2 2 -> 9
            """);
    }

    private static void switchFountain() {
        Script.test("Promise 6: off, and on again", """
            addFountain 2 2 5
            addFountain 2 3 5
            switchFountain 0 -> false
            isRunning 0 -> false
            isRunning 1 -> true
            noiseAt 2 2 -> 3
            switchFountain 0 -> true
            isRunning 0 -> true
            noiseAt 2 2 -> 8
            """);
    }

    private static void setNoiseLimit() {
        Script.test("Promise 7: limit, 0 to 20", """
            setNoiseLimit 0 -> 3
            setNoiseLimit 20 -> 0
            setNoiseLimit -1 -> throws IllegalArgument
            setNoiseLimit 21 -> throws IllegalArgument
            setNoiseLimit MIN -> throws IllegalArgument
            setNoiseLimit MAX -> throws IllegalArgument
            noiseLimit -> 20
            setNoiseLimit 20 -> 20
            setNoiseLimit 1 -> 20
            noiseLimit -> 1
            """);
    }

    // ---- promises 8 to 16

    private static void counts() {
        Script.test("Promises 8, 13, 16: counts and the limit before, after and beside a refused call", """
            addBench 0 0 5
            benchCount -> 1
            fountainCount -> 0
            addFountain 0 0 5 -> rejected CELL_TAKEN 0
            addBench 0 0 5 -> rejected CELL_TAKEN 0
            benchCount -> 1
            fountainCount -> 0
            addFountain 0 1 5
            switchFountain 0
            fountainCount -> 1
            undo
            undo
            fountainCount -> 0
            setNoiseLimit 21 -> throws IllegalArgument
            noiseLimit -> 3
            """);
    }

    private static void indices() {
        // A call, its answer for the first bench or fountain, and its answer for the last one in a full park.
        String[][] ofBench = {
            {"Promise 3: setRent I 5", "5", "14"}, {"Promise 9: rowOf I", "0", "1"},
            {"Promise 10: columnOf I", "0", "3"}, {"Promise 11: baseRent I", "5", "14"},
            {"Promise 12: rentOf I", "5", "14"}, {"Promise 19: isQuiet I", "true", "true"}};
        for (String[] row : ofBench) {
            indices("bench", row, Script.benches(1), Script.benches(9), 10);
        }
        String[][] ofFountain = {
            {"Promise 5: setLoudness I 5", "1", "1"}, {"Promise 6: switchFountain I", "false", "false"},
            {"Promise 14: loudnessOf I", "1", "1"}, {"Promise 15: isRunning I", "true", "true"}};
        for (String[] row : ofFountain) {
            indices("fountain", row, Script.fountains(1), Script.fountains(1), 4);
        }
    }

    private static void indices(String kind, String[] row, String one, String some, int most) {
        String call = row[0].substring(row[0].indexOf(": ") + 2);
        String missing = " -> throws IndexOutOfBounds\n";
        StringBuilder lines = new StringBuilder(call.replace("I", "0")).append(missing).append(one);
        for (String index : new String[] {"-1", "1", "MIN", "MAX", "256", "65536"}) {
            lines.append(call.replace("I", index)).append(missing);
        }
        lines.append(call.replace("I", "0")).append(" -> ").append(row[1]).append('\n');
        Script.test(row[0] + ", one " + kind, lines.toString());
        String full = Script.benches(10) + Script.fountains(4);
        Script.test(row[0] + ", all of them", full + call.replace("I", String.valueOf(most)) + missing
            + call.replace("I", String.valueOf(most - 1)) + " -> " + row[2] + "\n"
            + call.replace("I", "-1") + missing);
    }
}
