/** The edges of rejections, changes, undo and the snapshot: the terms, and the promises 59 to 64. */
public final class HistoryEdgesTest {
    private static final String CORNER = "addBench 0 0 5\naddTenant 20\n";

    /** Bench 0 is let to tenant 0, who will default in the first month; tenant 1 could lease bench 1. */
    private static final String PARK = """
        addBench 0 0 5
        addBench 5 5 5
        addFountain 3 3 1
        addTenant 8
        addTenant 50
        lease 0 0 3
        """;
    private static final String[] CHANGES = {"addBench 1 1 7 -> 2", "setRent 0 9 -> 5", "addFountain 1 1 9 -> 1",
        "setLoudness 0 4 -> 1", "switchFountain 0 -> false", "setNoiseLimit 9 -> 3", "addTenant 7 -> 2",
        "giveCoins 1 9 -> 59", "lease 1 1 4 -> 5", "endLease 0 -> 2", "renew 0 4 -> 7", "passMonths 1 -> 1",
        "execute \"give 0 9;pass 2\" -> 2"};
    // Questions, refused calls, and calls that reach nothing that undo covers.
    private static final String[] NO_CHANGES = {"benchCount", "rowOf 0", "columnOf 0", "baseRent 0", "rentOf 0", "fountainCount",
        "loudnessOf 0", "isRunning 0", "noiseLimit", "noiseAt 0 0", "noiseBySpreading 0 0", "isQuiet 0",
        "quietCount", "tenantCount", "coinsOf 0", "defaultsOf 0", "benchOf 0", "canLease 1 0", "cheapestFor 1",
        "isLet 0", "tenantOf 0", "depositOf 0", "monthsLeft 0", "defaultMonth 0", "month", "incomeWithin 12",
        "incomeByLeases 12", "brokerCoins", "depositTotal", "allCoins", "allCoinsGiven", "defaultedLeases",
        "terminatedLeases", "completedLeases", "benchByRent 0", "tenantByCoins 0", "meanRent", "letShare",
        "isConsistent", "writeBench 0", "writeRow 0", "outputAt 0", "appendInput 120", "syntaxErrorOffset",
        "rejectionReason", "rejectionDetail", "causeReason", "saveSnapshot", "addBench 0 0 5", "addBench 6 0 5",
        "addBench 1 1 21", "setRent 9 5", "setRent 0 21", "addFountain 0 0 5", "setLoudness 0 10",
        "switchFountain 4", "setNoiseLimit 21", "addTenant 100", "giveCoins 0 100", "lease 0 0 3", "lease 0 0 13",
        "lease 5 0 3", "endLease 1", "endLease 9", "renew 0 12", "renew 0 13", "passMonths 13", "execute \"pass\"",
        "execute \"pass 13\"", "execute \"tenant 9;pass 3;pass 13\"",
        "execute \"bench 0 0 5\"", "execute \"pass 2;limit 7;end 0\"", "restoreSnapshot"};

    public static void main(String[] args) {
        rejections();
        causes();
        rejectedCallsChangeNothing();
        depthOfUndo();
        changesWithoutADifference();
        noChanges();
        changesBehindOtherCalls();
        undoOfEach();
        saveSnapshot();
        restoreSnapshot();
        whatIsNotCovered();
        manyCalls();
        Check.finish();
    }

    // ---- promises 59 to 61

    private static void rejections() {
        Script.test("Promises 59 to 61: no call was rejected, but others were refused", CORNER + """
            rejectionReason -> throws NoSuchElement
            rejectionDetail -> throws NoSuchElement
            causeReason -> throws NoSuchElement
            addBench 6 0 5 -> throws IndexOutOfBounds
            addBench 1 1 0 -> throws IllegalArgument
            endLease 1 -> throws IndexOutOfBounds
            renew 0 13 -> throws IllegalArgument
            execute "pass 13" -> throws IllegalState
            execute "pass" -> syntax 4
            repeat 3 undo
            restoreSnapshot -> throws IllegalState
            rejectionReason -> throws NoSuchElement
            rejectionDetail -> throws NoSuchElement
            causeReason -> throws NoSuchElement
            """);
        Script.test("Promises 59 and 60: the latest rejection, also with a detail of 0", CORNER + """
            addBench 1 1 5
            renew 1 5 -> rejected NOT_LET 1
            addBench 0 0 5 -> rejected CELL_TAKEN 0
            rejectionDetail -> 0
            endLease 0 -> rejected NOT_LET 0
            rejectionReason -> 10
            lease 0 0 3 -> 5
            rejectionReason -> 10
            rejectionDetail -> 0
            renew 0 12 -> rejected TERM_LIMIT 3
            rejectionReason -> 11
            rejectionDetail -> 3
            """);
        Script.test("Promises 59 to 61: the latest rejection stays when other calls succeed or are refused", CORNER + """
            addBench 0 0 5 -> rejected CELL_TAKEN 0
            addBench 0 0 0 -> throws IllegalArgument
            addBench 9 0 5 -> throws IndexOutOfBounds
            canLease 0 0 -> true
            addBench 0 1 5 -> 1
            undo -> 2
            execute "pass 1" -> 1
            execute "pass 0" -> throws IllegalState
            execute "pass" -> syntax 4
            saveSnapshot -> 1
            restoreSnapshot -> 1
            rejectionReason -> 4
            rejectionDetail -> 0
            causeReason -> throws NoSuchElement
            """);
    }

    private static void causes() {
        Script.test("Promise 61: the cause of COMMAND_REJECTED alone", CORNER + """
            causeReason -> throws NoSuchElement
            endLease 0 -> rejected NOT_LET 0
            causeReason -> throws NoSuchElement
            execute "pass 1;renew 0 1" -> rejected COMMAND_REJECTED 1 NOT_LET
            causeReason -> 10
            rejectionReason -> 12
            rejectionDetail -> 1
            execute "pass 13" -> throws IllegalState
            execute "pass 13;" -> syntax 8
            causeReason -> 10
            execute "bench 0 0 5" -> rejected COMMAND_REJECTED 0 CELL_TAKEN
            causeReason -> 4
            addBench 0 0 5 -> rejected CELL_TAKEN 0
            causeReason -> throws NoSuchElement
            rejectionReason -> 4
            """);
        Script.test("COMMAND_REJECTED: the detail is the number of the command, from 0", CORNER + """
            execute "end 0" -> rejected COMMAND_REJECTED 0 NOT_LET
            execute "pass 1;end 0" -> rejected COMMAND_REJECTED 1 NOT_LET
            execute "pass 1;pass 1;pass 1;pass 1;pass 1;pass 1;pass 1;end 0" -> rejected COMMAND_REJECTED 7 NOT_LET
            month -> 0
            """);
    }

    /** Script looks at everything else behind each of these calls, and each of the twelve reasons is here. */
    private static void rejectedCallsChangeNothing() {
        Script.test("Rejections: a rejected call changes nothing but the latest rejection, the park", Script.benches(10)
            + Script.fountains(4) + Script.tenants(8, 9) + """
            saveSnapshot
            setRent 0 6
            text writeBench 0 -> 0@0,0$6~0
            type "pass 1;" -> 7
            addBench 4 4 5 -> rejected BENCH_LIMIT 10
            addFountain 4 4 5 -> rejected FOUNTAIN_LIMIT 4
            addTenant 5 -> rejected TENANT_LIMIT 8
            lease 0 9 1 -> rejected TOO_POOR 9
            type "pass 1" -> 13
            execute -> 2
            outputAt 6 -> 6
            undo -> 7
            undo -> 6
            baseRent 0 -> 5
            """);
        Script.test("Rejections: a rejected call changes nothing but the latest rejection, the leases", """
            addBench 0 0 5
            addBench 5 5 5
            addBench 5 4 5
            addFountain 5 3 6
            addTenant 20
            addTenant 20
            lease 0 0 3
            text writeBench 0 -> 0@0,0$5~0=0/3
            addBench 0 0 5 -> rejected CELL_TAKEN 0
            lease 0 1 3 -> rejected HAS_LEASE 0
            lease 1 0 3 -> rejected LET 0
            lease 1 2 3 -> rejected LOUD 4
            endLease 1 -> rejected NOT_LET 1
            renew 1 1 -> rejected NOT_LET 1
            renew 0 10 -> rejected TERM_LIMIT 3
            outputAt 13 -> throws IndexOutOfBounds
            undo -> 6
            isLet 0 -> false
            """);
    }

    // ---- promise 62

    private static void depthOfUndo() {
        Script.test("Promise 62: there is none", """
            undo -> throws IllegalState
            addTenant 5
            undo -> 0
            undo -> throws IllegalState
            undo -> throws IllegalState
            tenantCount -> 0
            """);
        for (int changes = 1; changes <= 8; changes++) {
            StringBuilder lines = new StringBuilder("repeat " + changes + " passMonths 1\n");
            for (int left = changes - 1; left >= 0; left--) {
                lines.append("undo -> ").append(left).append("\nmonth -> ").append(left).append('\n');
            }
            lines.append("undo -> throws IllegalState\nmonth -> 0\n");
            Script.test("Changes: the latest 8 can be undone, here " + changes, lines.toString());
        }
        for (int changes = 9; changes <= 26; changes++) {
            StringBuilder lines = new StringBuilder("repeat " + changes + " passMonths 1\n");
            for (int left = 7; left >= 0; left--) {
                lines.append("undo -> ").append(left).append("\nmonth -> ").append(changes - 8 + left).append('\n');
            }
            lines.append("undo -> throws IllegalState\nmonth -> ").append(changes - 8).append('\n');
            Script.test("Changes: the latest 8 can be undone, here of " + changes, lines.toString());
        }
        Script.test("Promise 62: undo in between, and a change in place of an undone one", """
            repeat 8 passMonths 1
            repeat 3 undo -> 5
            month -> 5
            passMonths 12 -> 0
            undo -> 5
            month -> 5
            repeat 4 passMonths 2
            month -> 13
            undo -> 7
            month -> 11
            repeat 7 undo -> 0
            month -> 1
            undo -> throws IllegalState
            passMonths 3 -> 0
            undo -> 0
            month -> 1
            undo -> throws IllegalState
            """);
        Script.test("Promise 62: an undo is not undone by another", """
            setNoiseLimit 5
            setNoiseLimit 6
            undo -> 1
            noiseLimit -> 5
            undo -> 0
            noiseLimit -> 3
            undo -> throws IllegalState
            noiseLimit -> 3
            """);
        Script.test("Promise 62: a park filled and emptied again and again", ("addBench 0 0 5\naddFountain 0 1 9\n"
            + "addTenant 50\nlease 0 0 3\nrepeat 4 undo\n").repeat(7) + """
            benchCount -> 0
            fountainCount -> 0
            tenantCount -> 0
            undo -> throws IllegalState
            noiseAt 0 1 -> 0
            """);
    }

    private static void changesWithoutADifference() {
        String[] same = {"setRent 0 5", "setLoudness 0 1", "setNoiseLimit 3", "execute \"limit 3\"",
            "execute \"limit 03;limit 3\"", "execute \"switch 0;switch 0\""};
        for (String call : same) {
            Script.test("Changes: also if nothing is different after it, " + call, """
                addBench 0 0 5
                addFountain 5 5 1
                CALL
                undo -> 2
                undo -> 1
                undo -> 0
                addBench 0 0 5
                addFountain 5 5 1
                repeat 8 CALL
                undo -> 7
                repeat 7 undo -> 0
                undo -> throws IllegalState
                fountainCount -> 1
                """.replace("CALL", call));
        }
        Script.test("Changes: execute is one change, however many commands it has", """
            execute "tenant 5;tenant 6;tenant 7;pass 1" -> 4
            execute "pass 1" -> 1
            undo -> 1
            tenantCount -> 3
            undo -> 0
            tenantCount -> 0
            undo -> throws IllegalState
            """);
    }

    private static void noChanges() {
        for (String call : NO_CHANGES) {
            Script.test("Changes: this is none, " + call, PARK + call + """

                undo -> 5
                isLet 0 -> false
                tenantCount -> 2
                undo -> 4
                tenantCount -> 1
                repeat 4 undo -> 0
                undo -> throws IllegalState
                """);
        }
    }

    /** A change answers and does the same, whatever happened ahead of it without effect. */
    private static void changesBehindOtherCalls() {
        for (String change : CHANGES) {
            String due = PARK + change;
            for (String call : NO_CHANGES) {
                if (change.startsWith("execute") && call.startsWith("appendInput")) {
                    continue;
                }
                Script.sameData("Exceptions: " + change + " behind " + call, PARK + call + "\n" + change, due);
            }
            for (String other : CHANGES) {
                String undone = PARK + other + "\nundo\n" + change;
                Script.sameData("Promise 62: " + change + " behind an undo of " + other, undone, due);
                String restored = PARK + "saveSnapshot\n" + other + "\nrestoreSnapshot\n" + change;
                Script.sameData("Promise 64: " + change + " behind a snapshot ahead of " + other, restored, due);
            }
        }
    }

    /** Script undoes each of these once more by itself, and looks at the data. */
    private static void undoOfEach() {
        Script.test("Changes: each of the thirteen calls is undone", """
            addBench 0 0 5 -> 0
            addFountain 3 3 9 -> 0
            addTenant 40 -> 0
            lease 0 0 3 -> 5
            setRent 0 9 -> 5
            setLoudness 0 2 -> 9
            switchFountain 0 -> false
            setNoiseLimit 9 -> 3
            giveCoins 0 50 -> 85
            renew 0 9 -> 12
            passMonths 2 -> 0
            endLease 0 -> 2
            execute "bench 1 1 5;pass 1;give 0 9;switch 0" -> 4
            undo -> 7
            benchCount -> 1
            isLet 0 -> false
            isRunning 0 -> false
            undo -> 6
            isLet 0 -> true
            depositOf 0 -> 5
            monthsLeft 0 -> 10
            brokerCoins -> 18
            undo -> 5
            month -> 0
            monthsLeft 0 -> 12
            brokerCoins -> 0
            coinsOf 0 -> 85
            undo -> 4
            monthsLeft 0 -> 3
            undo -> 3
            coinsOf 0 -> 35
            allCoinsGiven -> 40
            undo -> 2
            noiseLimit -> 3
            undo -> 1
            isRunning 0 -> true
            undo -> 0
            loudnessOf 0 -> 9
            baseRent 0 -> 9
            undo -> throws IllegalState
            baseRent 0 -> 9
            """);
        Script.test("Changes: months that end leases in each way are undone", """
            addBench 0 0 5
            addBench 5 5 6
            addBench 5 0 4
            addTenant 5
            addTenant 6
            addTenant 8
            lease 0 0 9
            lease 1 1 9
            lease 2 2 1
            addFountain 0 1 9
            passMonths 1 -> 3
            undo -> 7
            tenantOf 0 -> 0
            tenantOf 1 -> 1
            tenantOf 2 -> 2
            depositTotal -> 15
            defaultsOf 1 -> 0
            passMonths 12 -> 3
            """);
    }

    // ---- promises 63 and 64

    private static void saveSnapshot() {
        Script.test("Promise 63: the number of benches, none and ten", "saveSnapshot -> 0\n" + Script.benches(10) + """
            saveSnapshot -> 10
            undo -> 7
            saveSnapshot -> 9
            restoreSnapshot -> 9
            """);
        Script.test("Promise 63: in place of an earlier snapshot", """
            setNoiseLimit 5
            saveSnapshot -> 0
            setNoiseLimit 6
            saveSnapshot -> 0
            setNoiseLimit 7
            restoreSnapshot -> 0
            noiseLimit -> 6
            """);
        Script.test("Promise 63: a snapshot is no change, and an undo does not take it back", """
            setNoiseLimit 5
            saveSnapshot -> 0
            undo -> 0
            noiseLimit -> 3
            undo -> throws IllegalState
            restoreSnapshot -> 0
            noiseLimit -> 5
            """);
    }

    private static void restoreSnapshot() {
        Script.test("Promise 64: there is no snapshot", CORNER + """
            restoreSnapshot -> throws IllegalState
            benchCount -> 1
            undo -> 1
            undo -> 0
            """);
        Script.test("Promise 64: it is kept, and later changes do not reach it", CORNER + """
            lease 0 0 3
            saveSnapshot -> 1
            passMonths 1
            giveCoins 0 9
            restoreSnapshot -> 1
            coinsOf 0 -> 15
            monthsLeft 0 -> 3
            month -> 0
            endLease 0
            addBench 1 1 1
            restoreSnapshot -> 1
            isLet 0 -> true
            benchCount -> 1
            restoreSnapshot -> 1
            coinsOf 0 -> 15
            """);
        Script.test("Promise 64: no change can be undone after the call, but those that follow it", CORNER + """
            saveSnapshot -> 1
            repeat 9 passMonths 1
            restoreSnapshot -> 1
            undo -> throws IllegalState
            month -> 0
            passMonths 1 -> 0
            passMonths 2 -> 0
            undo -> 1
            month -> 1
            undo -> 0
            month -> 0
            undo -> throws IllegalState
            """);
        Script.test("Promise 64: also if nothing is different, no change can be undone", CORNER + """
            saveSnapshot -> 1
            restoreSnapshot -> 1
            undo -> throws IllegalState
            tenantCount -> 1
            """);
        Script.test("Promise 64: an empty park in place of a full one", "saveSnapshot -> 0\n" + Script.benches(10)
            + Script.fountains(4) + Script.tenants(8, 50) + """
            lease 0 0 3
            passMonths 1
            restoreSnapshot -> 0
            benchCount -> 0
            fountainCount -> 0
            tenantCount -> 0
            brokerCoins -> 0
            noiseAt 5 0 -> 0
            text writeRow 0 -> ......
            text writeRow 5 -> ......
            addBench 0 0 7 -> 0
            isLet 0 -> false
            addTenant 3 -> 0
            benchOf 0 -> throws NoSuchElement
            defaultsOf 0 -> 0
            """);
        Script.test("Promise 64: a full park in place of an emptier one", Script.benches(8) + "addBench 4 4 5\n"
            + "addTenant 50\nlease 0 8 12\naddBench 4 5 6\nsaveSnapshot -> 10\nrepeat 4 undo\nbenchCount -> 8\n" + """
            restoreSnapshot -> 10
            benchOf 0 -> 8
            monthsLeft 8 -> 12
            rentOf 9 -> 6
            addBench 5 5 5 -> rejected BENCH_LIMIT 10
            """);
    }

    private static void whatIsNotCovered() {
        Script.test("Changes: undo covers neither input, output, rejection nor syntax error", """
            addBench 0 0 5
            addBench 0 1 5
            text writeRow 0 -> 01....
            addBench 0 1 5 -> rejected CELL_TAKEN 1
            execute "p" -> syntax 1
            type "pass 1" -> 6
            undo -> 1
            outputAt 1 -> 1
            rejectionDetail -> 1
            syntaxErrorOffset -> 1
            undo -> 0
            outputAt 1 -> 1
            appendInput 50 -> 7
            execute -> 1
            month -> 12
            """);
        Script.test("Changes: the snapshot covers neither input, output, rejection nor syntax error", """
            addBench 0 0 5
            saveSnapshot -> 1
            addBench 0 1 5
            text writeRow 0 -> 01....
            addBench 0 1 5 -> rejected CELL_TAKEN 1
            execute "p" -> syntax 1
            type "pass 1" -> 6
            restoreSnapshot -> 1
            outputAt 1 -> 1
            rejectionDetail -> 1
            rejectionReason -> 4
            syntaxErrorOffset -> 1
            appendInput 50 -> 7
            execute -> 1
            month -> 12
            """);
        Script.test("Changes: a snapshot saved beside input and output does not bring them back", """
            addBench 0 0 5
            type "pass 1" -> 6
            text writeRow 0 -> 0.....
            saveSnapshot -> 1
            execute -> 1
            text writeRow 5 -> ......
            addBench 0 0 5 -> rejected CELL_TAKEN 0
            execute "q" -> syntax 0
            restoreSnapshot -> 1
            month -> 0
            outputAt 0 -> .
            rejectionReason -> 4
            syntaxErrorOffset -> 0
            appendInput 32 -> 1
            """);
    }

    private static void manyCalls() {
        Script.test("What it is: the 512th call still answers", """
            repeat 500 passMonths 1 -> 0
            month -> 500
            repeat 8 undo -> 0
            undo -> throws IllegalState
            month -> 492
            passMonths 12 -> 0
            """);
        Script.test("What it is: 512 calls, and the input filled and emptied among them", "type \"" + "~".repeat(60)
            + "\" -> 60\nexecute -> syntax 0\n" + ("type \"" + "pass 1;".repeat(8) + "ten\"\nexecute -> syntax 59\n")
            .repeat(7) + """
            type "pass 12" -> 7
            execute -> 1
            month -> 12
            """);
    }
}
