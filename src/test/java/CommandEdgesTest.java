/** The edges of the input and its commands: the terms, and the promises 56 to 58. */
public final class CommandEdgesTest {
    /** Each command with one digit for each argument; those behind the bar end in a number. */
    private static final String[] IN_DIGITS = {"fountain 1 1 5", "end 0", "switch 0"};
    private static final String[] IN_NUMBERS = {"bench 2 2 5", "tenant 7", "give 0 7", "lease 0 0 7", "renew 0 1",
        "limit 7", "pass 7"};
    /** A park in which each command above can be executed alone, but for the lease, which has its own. */
    private static final String LET = "addBench 0 0 5\naddTenant 50\nlease 0 0 3\naddFountain 5 5 1\n";
    private static final String UNLET = "addBench 0 0 5\naddTenant 50\naddFountain 5 5 1\n";

    public static void main(String[] args) {
        characters();
        emptyAndFull();
        separators();
        digitsAndNumbers();
        words();
        everyOffset();
        latestOffset();
        refusedArguments();
        rejectedCommands();
        allOrNone();
        firstFailure();
        Check.finish();
    }

    private static void execute(String name, String park, String line) {
        Script.test(name + ": " + line.lines().findFirst().orElse(""), park + line);
    }

    // ---- promise 56

    private static void characters() {
        Script.test("Promise 56: a code from 32 to 126", """
            appendInput 31 -> throws IllegalArgument
            appendInput 127 -> throws IllegalArgument
            appendInput 32 -> 1
            appendInput 126 -> 2
            appendInput 0 -> throws IllegalArgument
            appendInput 10 -> throws IllegalArgument
            appendInput 128 -> throws IllegalArgument
            appendInput 160 -> throws IllegalArgument
            appendInput 288 -> throws IllegalArgument
            appendInput 65535 -> throws IllegalArgument
            appendInput 65 -> 3
            """);
        Script.test("Promise 56: 60 characters and no more, and a wrong code first", """
            type "pass 01;pass 01;pass 01;pass 01;pass 01;pass 01;pass 01;pas" -> 59
            appendInput 31 -> throws IllegalArgument
            appendInput 115 -> 60
            appendInput 115 -> throws IllegalState
            appendInput 32 -> throws IllegalState
            appendInput 126 -> throws IllegalState
            appendInput 31 -> throws IllegalArgument
            appendInput 127 -> throws IllegalArgument
            execute -> syntax 60
            appendInput 32 -> 1
            """);
        Script.test("Promise 56: after the call of execute the input begins anew, whatever the call did", """
            type "pass 1" -> 6
            execute -> 1
            type "p" -> 1
            execute -> syntax 1
            type "pa" -> 2
            execute -> syntax 2
            type "pass 13" -> 7
            execute -> throws IllegalState
            addBench 0 0 5
            type "end 0" -> 5
            execute -> rejected COMMAND_REJECTED 0 NOT_LET
            type "pass 1" -> 6
            execute -> 1
            month -> 2
            """);
    }

    private static void emptyAndFull() {
        execute("Commands: the input has one or more commands", "", "execute -> syntax 0\n");
        execute("Commands: one", "", "execute \"pass 1\" -> 1\nmonth -> 1\n");
        execute("Commands: two", "", "execute \"pass 1;pass 2\" -> 2\nmonth -> 3\n");
        execute("Commands: 60 characters", "",
            "execute \"pass 1;pass 1;pass 1;pass 1;pass 1;pass 1;pass 1;tenant 99\" -> 8\nmonth -> 7\ncoinsOf 0 -> 99\n");
        Script.test("Commands: ten in 60 characters, and the tenth is rejected", Script.benches(8)
            + Script.tenants(8, 50) + leases(8) + """
            execute "end 0;end 1;end 2;end 3;end 4;end 5;end 6;end 7;pass 1;end 0" -> rejected COMMAND_REJECTED 9 NOT_LET
            letShare -> 1.0
            month -> 0
            execute "end 0;end 1;end 2;end 3;end 4;end 5;end 6;pass 1;end 0" -> rejected COMMAND_REJECTED 8 NOT_LET
            execute "end 0;end 1;end 2;end 3;end 4;end 5;end 6;end 7;pass 1" -> 9
            letShare -> 0.0
            month -> 1
            """);
        Script.test("Commands: a syntax error at the last of 60 characters, and behind it", """
            execute "pass 01;pass 01;pass 01;pass 01;pass 01;pass 01;pass 01;pasx" -> syntax 59
            execute "pass 01;pass 01;pass 01;pass 01;pass 01;pass 01;pass 01;pass" -> syntax 60
            execute "pass 1;pass 1;pass 1;pass 1;pass 01;pass 01;pass 01;pass 01;" -> syntax 60
            month -> 0
            """);
    }

    private static String leases(int count) {
        StringBuilder lines = new StringBuilder();
        for (int i = 0; i < count; i++) {
            lines.append("lease ").append(i).append(' ').append(i).append(" 12\n");
        }
        return lines.toString();
    }

    // ---- the grammar

    private static void separators() {
        String[][] cases = {{";", "0"}, {";pass 1", "0"}, {"pass 1;", "7"}, {"pass 12;", "8"}, {"pass 1;;", "7"},
            {"pass 1;;pass 1", "7"}, {"pass 1 ;pass 1", "6"}, {"pass 1; pass 1", "7"}, {"pass 1:pass 1", "6"},
            {"pass 1<pass 1", "6"}, {"pass 1,pass 1", "6"}, {"pass 1pass 1", "6"}, {"pass 12pass 1", "7"},
            {"end 0pass 1", "5"}, {" pass 1", "0"}, {"pass 1 ", "6"}, {"pass 12 ", "7"}, {"end 0 ", "5"},
            {"end 0;", "6"}, {" ", "0"}, {"pass 1;pass", "11"}, {"pass 1;pass 1;pasx 1", "17"}};
        for (String[] row : cases) {
            execute("Commands: \";\" between two of them", "", "execute \"" + row[0] + "\" -> syntax " + row[1]);
        }
        for (String command : IN_NUMBERS) {
            String park = command.startsWith("lease") ? UNLET : LET;
            execute("Commands: behind a number", park, "execute \"" + command + ";pass 1\" -> 2\n");
        }
        for (String command : IN_DIGITS) {
            execute("Commands: behind a digit", LET, "execute \"" + command + ";pass 1\" -> 2\n");
        }
    }

    private static void digitsAndNumbers() {
        String[][] cases = {
            {"pass ", "5"}, {"pass 0", "state"}, {"pass 00", "state"}, {"pass 01", "1"}, {"pass 9", "1"},
            {"pass 12", "1"}, {"pass 012", "7"}, {"pass 120", "7"}, {"pass 1 2", "6"}, {"pass /", "5"},
            {"pass :", "5"}, {"pass 1/", "6"}, {"pass 1:", "6"}, {"pass -1", "5"}, {"pass +1", "5"},
            {"pass  1", "5"}, {"pass1", "4"}, {"pass!1", "4"}, {"tenant 0", "1"}, {"tenant 00", "1"},
            {"tenant 99", "1"}, {"tenant 100", "9"}, {"tenant 999", "9"}, {"limit 0", "1"}, {"limit 20", "1"},
            {"limit 020", "8"}, {"bench 0 0  5", "10"}, {"bench 0  0 5", "8"}, {"bench  0 0 5", "6"},
            {"bench 00 5", "7"}, {"bench 0 05", "9"}, {"bench 0 0 100", "12"}, {"bench 0 0 1 ", "11"},
            {"bench 0 0 /", "10"}, {"bench 0 0 :", "10"}, {"bench / 0 1", "6"}, {"bench 0 : 1", "8"},
            {"bench 0!0 1", "7"}, {"bench 0 0!1", "9"}, {"fountain 3 3 10", "14"}, {"fountain 3 3 9", "1"},
            {"fountain 3 3 01", "14"}, {"fountain 33 3 1", "10"}, {"fountain 3 3  1", "13"}, {"end 00", "5"},
            {"end 10", "5"}, {"end /", "4"}, {"end :", "4"}, {"switch 00", "8"}, {"switch  0", "7"},
            {"give 0 0", "state"}, {"give 00 5", "6"}, {"give 0  5", "7"}, {"give 0 100", "9"}, {"give 0 99", "1"},
            {"renew 0 001", "10"}, {"renew 0  1", "8"}, {"renew 0 01", "1"}, {"lease 0 0 123", "12"},
            {"lease 0 00 1", "9"}, {"lease 00 0 1", "7"}, {"lease 0 0 1 1", "11"}};
        for (String[] row : cases) {
            String due = row[1].equals("state") ? "throws IllegalState" : row[1].equals("1") ? "1" : "syntax " + row[1];
            execute("Commands: digits, numbers and one space", LET, "execute \"" + row[0] + "\" -> " + due);
        }
        Script.test("Commands: a number of one digit, of two, and one with a 0 ahead", """
            execute "tenant 5;tenant 05;tenant 50;tenant 99;tenant 0;tenant 10" -> 6
            coinsOf 0 -> 5
            coinsOf 1 -> 5
            coinsOf 2 -> 50
            coinsOf 3 -> 99
            coinsOf 4 -> 0
            coinsOf 5 -> 10
            """);
        Script.test("Commands: each argument in its place", """
            execute "bench 1 2 13;fountain 3 4 5;tenant 60;tenant 61;bench 0 5 9" -> 5
            rowOf 0 -> 1
            columnOf 0 -> 2
            baseRent 0 -> 13
            noiseAt 3 4 -> 5
            loudnessOf 0 -> 5
            execute "lease 1 0 11;give 0 25;limit 9;switch 0" -> 4
            tenantOf 0 -> 1
            monthsLeft 0 -> 11
            coinsOf 0 -> 85
            noiseLimit -> 9
            isRunning 0 -> false
            execute "renew 0 1;pass 2;end 0" -> 3
            month -> 2
            isLet 0 -> false
            coinsOf 1 -> 28
            """);
    }

    private static void words() {
        String[][] cases = {{"b", "1"}, {"bx", "1"}, {"Bench 0 0 5", "0"}, {"bEnch 0 0 5", "1"}, {"benchh", "5"},
            {"bench", "5"}, {"bench;", "5"}, {"benches 0", "5"}, {"f", "1"}, {"fa", "1"}, {"fountains", "8"},
            {"tenant", "6"}, {"tenent 5", "3"}, {"t ", "1"}, {"give", "4"}, {"gibe", "2"}, {"l", "1"}, {"le", "2"},
            {"li", "2"}, {"la", "1"}, {"l ", "1"}, {"lemit 5", "2"}, {"liase 0 0 5", "2"}, {"leasE", "4"},
            {"limit", "5"}, {"limits", "5"}, {"lim", "3"}, {"limi ", "4"}, {"end", "3"}, {"ene", "2"}, {"en", "2"},
            {"ends", "3"}, {"renew", "5"}, {"rent", "3"}, {"re", "2"}, {"switch", "6"}, {"swap", "2"}, {"s", "1"},
            {"pass", "4"}, {"past", "3"}, {"passs", "4"}, {"p", "1"}, {"a", "0"}, {"z", "0"}, {"0", "0"}, {"5 0", "0"},
            {"~", "0"}, {"month 1", "0"}, {"undo", "0"}, {"pass 1;q", "7"}, {"pass 1;le", "9"},
            {"pass 1;lx", "8"}, {"pass 1;Pass 1", "7"}};
        for (String[] row : cases) {
            execute("Commands: words are read letter by letter", LET, "execute \"" + row[0] + "\" -> syntax " + row[1]);
        }
    }

    /** Each command cut off at each place, and with a wrong character at each place. */
    private static void everyOffset() {
        for (String command : IN_NUMBERS) {
            offsets(command);
            longNumber(command);
        }
        for (String command : IN_DIGITS) {
            offsets(command);
            int length = command.length();
            Check.test("Commands: a digit has no second digit, " + command, () -> {
                syntaxError(length, command + "0");
                syntaxError(length, command + "9");
                syntaxError(length + 7, "pass 1;" + command + "0");
            });
        }
    }

    private static void offsets(String command) {
        for (int end = 0; end < command.length(); end++) {
            int at = end;
            String start = command.substring(0, end);
            Check.test("Commands: the input ends too early, " + start, () -> {
                syntaxError(at, start);
                syntaxError(7 + at, "pass 1;" + start);
            });
            for (String sign : new String[] {"~", "!", ";", ":", "/", " ", "x", "0", "9"}) {
                if (fits(command.charAt(end), sign.charAt(0))) {
                    continue;
                }
                Check.test("Commands: " + sign + " behind " + start, () -> {
                    syntaxError(at, start + sign);
                    syntaxError(at, start + sign + command.substring(at));
                    syntaxError(7 + at, "pass 1;" + start + sign);
                });
            }
        }
    }

    private static boolean fits(char due, char sign) {
        return due == sign || Character.isDigit(due) && Character.isDigit(sign);
    }

    private static void longNumber(String command) {
        int length = command.length();
        Check.test("Commands: a number has no third digit, " + command, () -> {
            syntaxError(length + 1, command + "00");
            syntaxError(length + 1, command + "99;pass 1");
            syntaxError(length, command + "~");
            syntaxError(length + 1, command + "0~");
            syntaxError(length + 1, command + ";");
            syntaxError(length + 2, command + "0;");
        });
    }

    private static void syntaxError(int offset, String text) {
        BenchBroker b = new BenchBroker();
        Check.due(Check.WRONG_NUMBER, () -> Check.execute(b, text));
        Check.due(offset, () -> b.syntaxErrorOffset());
        Check.due(0, () -> b.month());
        Check.due(Check.WRONG_STATE, () -> b.undo());
        Check.due(1, () -> b.appendInput(' '));
    }

    private static void latestOffset() {
        Script.test("Promise 58: no syntax error before the first one, whatever else fails", """
            syntaxErrorOffset -> throws NoSuchElement
            execute "pass 13" -> throws IllegalState
            addBench 0 0 5
            execute "end 0" -> rejected COMMAND_REJECTED 0 NOT_LET
            execute "pass 1" -> 1
            appendInput 31 -> throws IllegalArgument
            addBench 1 1 21 -> throws IllegalArgument
            syntaxErrorOffset -> throws NoSuchElement
            execute "pass" -> syntax 4
            syntaxErrorOffset -> 4
            """);
        Script.test("Promise 58: the latest one stays until the next, also an offset of 0", """
            execute "pass 1;pass" -> syntax 11
            execute "pass 1" -> 1
            syntaxErrorOffset -> 11
            execute "pass 13" -> throws IllegalState
            syntaxErrorOffset -> 11
            addBench 0 0 5
            execute "end 0" -> rejected COMMAND_REJECTED 0 NOT_LET
            syntaxErrorOffset -> 11
            execute -> syntax 0
            syntaxErrorOffset -> 0
            saveSnapshot
            undo
            syntaxErrorOffset -> 0
            restoreSnapshot
            syntaxErrorOffset -> 0
            execute "q" -> syntax 0
            execute "p" -> syntax 1
            """);
    }

    // ---- promise 57

    /** Each index, cell and number of each command, on both sides of what its method accepts. */
    private static void refusedArguments() {
        String[] accepted = {"bench 5 4 20", "bench 0 1 1", "bench 5 0 20", "fountain 4 5 9", "fountain 0 5 1",
            "tenant 0", "tenant 99", "give 0 1", "give 0 99", "end 0", "renew 0 9", "renew 0 1", "switch 0",
            "limit 0", "limit 20", "pass 1", "pass 12"};
        for (String command : accepted) {
            execute("Promise 57: accepted", LET, "execute \"" + command + "\" -> 1");
        }
        execute("Promise 57: accepted", UNLET, "execute \"lease 0 0 1\" -> 1\nmonthsLeft 0 -> 1");
        execute("Promise 57: accepted", UNLET, "execute \"lease 0 0 12\" -> 1\nmonthsLeft 0 -> 12");
        String[] refused = {"bench 6 5 20", "bench 5 6 20", "bench 9 9 20", "bench 5 5 0", "bench 5 5 21",
            "bench 5 5 99", "bench 0 0 0", "bench 6 0 0", "fountain 6 0 5", "fountain 0 6 5", "fountain 9 9 9",
            "fountain 1 1 0", "fountain 0 0 0", "give 1 5", "give 9 5", "give 0 0", "give 0 00", "lease 1 0 5",
            "lease 0 1 5", "lease 9 9 5", "lease 0 0 0", "lease 0 0 13", "lease 0 0 99", "end 1", "end 9",
            "renew 1 5", "renew 0 0", "renew 0 13", "renew 0 99", "switch 1", "switch 9", "limit 21", "limit 99",
            "pass 0", "pass 13", "pass 99"};
        for (String command : refused) {
            execute("Promise 57: not accepted", LET, "execute \"" + command + "\" -> throws IllegalState");
            execute("Promise 57: not accepted as the second", LET,
                "execute \"pass 1;" + command + "\" -> throws IllegalState\nmonth -> 0\n");
        }
    }

    private static void rejectedCommands() {
        String rejected = " -> rejected COMMAND_REJECTED ";
        execute("Promise 57: rejected", Script.benches(10), "execute \"bench 5 5 5\"" + rejected + "0 BENCH_LIMIT");
        execute("Promise 57: rejected", Script.fountains(4), "execute \"fountain 0 0 5\"" + rejected + "0 FOUNTAIN_LIMIT");
        execute("Promise 57: rejected", Script.tenants(8, 1), "execute \"tenant 5\"" + rejected + "0 TENANT_LIMIT");
        String[][] cases = {{"bench 0 0 5", "CELL_TAKEN"}, {"bench 5 5 5", "CELL_TAKEN"},
            {"fountain 0 0 5", "CELL_TAKEN"}, {"fountain 5 5 5", "CELL_TAKEN"}, {"lease 0 0 5", "HAS_LEASE"},
            {"lease 1 0 5", "LET"}, {"lease 1 1 5", "TOO_POOR"}, {"lease 2 2 5", "LOUD"}, {"end 1", "NOT_LET"},
            {"renew 1 5", "NOT_LET"}, {"renew 0 12", "TERM_LIMIT"}};
        String park = LET + "addBench 0 3 5\naddTenant 4\naddBench 4 5 5\naddTenant 50\nsetLoudness 0 6\n";
        for (String[] row : cases) {
            execute("Promise 57: rejected", park, "execute \"" + row[0] + "\"" + rejected + "0 " + row[1]);
            execute("Promise 57: rejected as the third", park,
                "execute \"pass 1;limit 3;" + row[0] + "\"" + rejected + "2 " + row[1] + "\nmonth -> 0\n");
        }
        execute("Promise 57: rejected", "addBench 0 0 1\naddTenant 3\n"
            + "lease 0 0 5\nsetRent 0 20\npassMonths 1\nsetRent 0 1\n".repeat(3) + "giveCoins 0 99\n",
            "execute \"lease 0 0 5\"" + rejected + "0 BANNED");
    }

    private static void allOrNone() {
        Script.test("Promise 57: all commands or none", """
            execute "bench 0 0 5;tenant 9;lease 0 0 2;pass 1;end 0" -> rejected COMMAND_REJECTED 4 NOT_LET
            benchCount -> 0
            tenantCount -> 0
            allCoinsGiven -> 0
            month -> 0
            defaultedLeases -> 0
            undo -> throws IllegalState
            execute "bench 0 0 5;tenant 9;lease 0 0 2;pass 1;end 1" -> throws IllegalState
            benchCount -> 0
            undo -> throws IllegalState
            execute "bench 0 0 5;tenant 9;lease 0 0 2;pass 1;end" -> syntax 43
            benchCount -> 0
            undo -> throws IllegalState
            execute "bench 0 0 5;tenant 9;lease 0 0 2;pass 1" -> 4
            benchCount -> 1
            defaultedLeases -> 1
            brokerCoins -> 5
            undo -> 0
            benchCount -> 0
            undo -> throws IllegalState
            """);
        Script.test("Promise 57: a command sees what those ahead of it did, and not what follows", """
            execute "give 0 5;tenant 5" -> throws IllegalState
            execute "tenant 5;give 0 5" -> 2
            coinsOf 0 -> 10
            execute "lease 0 0 2;bench 0 0 5" -> throws IllegalState
            execute "bench 0 0 5;lease 0 0 2" -> 2
            execute "pass 1;end 0" -> 2
            coinsOf 0 -> 2
            execute "fountain 0 1 9;lease 0 0 1" -> rejected COMMAND_REJECTED 1 LOUD
            execute "fountain 0 1 9;switch 0;give 0 9;lease 0 0 1" -> 4
            """);
    }

    private static void firstFailure() {
        Script.test("Promise 57: a syntax error comes ahead of all failing commands", """
            addBench 0 0 5
            execute "end 0;pass" -> syntax 10
            rejectionReason -> throws NoSuchElement
            execute "pass 13;pass" -> syntax 12
            execute "end 0;end 0;end 0;x" -> syntax 18
            rejectionReason -> throws NoSuchElement
            """);
        Script.test("Promise 57: the first command that fails tells how the call fails", """
            addBench 0 0 5
            execute "pass 13;end 0" -> throws IllegalState
            rejectionReason -> throws NoSuchElement
            execute "end 0;pass 13" -> rejected COMMAND_REJECTED 0 NOT_LET
            execute "pass 1;pass 13;end 0" -> throws IllegalState
            execute "pass 1;bench 0 0 5;end 0" -> rejected COMMAND_REJECTED 1 CELL_TAKEN
            execute "pass 1;end 0;bench 0 0 5" -> rejected COMMAND_REJECTED 1 NOT_LET
            execute "pass 1;end 0;end 7" -> rejected COMMAND_REJECTED 1 NOT_LET
            execute "pass 1;end 7;end 0" -> throws IllegalState
            rejectionDetail -> 1
            """);
        Script.test("Promise 57: within a command what its method does not accept comes ahead of a rejection", """
            addBench 0 0 5
            execute "bench 0 0 21" -> throws IllegalState
            execute "renew 0 13" -> throws IllegalState
            execute "renew 0 12" -> rejected COMMAND_REJECTED 0 NOT_LET
            addTenant 4
            execute "lease 0 0 13" -> throws IllegalState
            execute "lease 0 0 12" -> rejected COMMAND_REJECTED 0 TOO_POOR
            """);
    }
}
