/** The edges of the totals, the orders and the text output: the promises 41 to 55. */
public final class TotalEdgesTest {
    public static void main(String[] args) {
        coins();
        benchByRent();
        tenantByCoins();
        shares();
        isConsistent();
        writeBench();
        writeRow();
        outputAt();
        Check.finish();
    }

    private static void coins() {
        Script.test("Promises 41 to 44: without tenants, and with a tenant without coins", """
            brokerCoins -> 0
            depositTotal -> 0
            allCoins -> 0
            allCoinsGiven -> 0
            addTenant 0
            allCoins -> 0
            allCoinsGiven -> 0
            addTenant 99
            allCoins -> 99
            allCoinsGiven -> 99
            """);
        Script.test("Promises 41 to 44: tenants, deposits and the broker, one after the other", """
            addBench 0 0 5
            addBench 5 5 7
            addTenant 10
            addTenant 20
            lease 0 0 2
            lease 1 1 12
            depositTotal -> 12
            brokerCoins -> 0
            allCoins -> 30
            passMonths 1 -> 0
            depositTotal -> 12
            brokerCoins -> 12
            allCoins -> 30
            passMonths 1 -> 2
            depositTotal -> 0
            brokerCoins -> 24
            coinsOf 0 -> 0
            coinsOf 1 -> 6
            allCoins -> 30
            allCoinsGiven -> 30
            giveCoins 0 1
            allCoins -> 31
            allCoinsGiven -> 31
            giveCoins 0 100 -> throws IllegalArgument
            addTenant 100 -> throws IllegalArgument
            allCoins -> 31
            allCoinsGiven -> 31
            undo
            allCoins -> 30
            allCoinsGiven -> 30
            """);
        Script.test("Promise 41: all the ways in which the broker gets coins, and no other", """
            addBench 0 0 5
            addTenant 99
            lease 0 0 3
            brokerCoins -> 0
            passMonths 1
            brokerCoins -> 5
            endLease 0 -> 2
            brokerCoins -> 8
            lease 0 0 1
            brokerCoins -> 8
            passMonths 1
            brokerCoins -> 13
            lease 0 0 1
            addFountain 0 1 9
            passMonths 1
            brokerCoins -> 13
            """);
    }

    private static void benchByRent() {
        Script.test("Promise 48: positions of no bench, of one bench and beside it", """
            benchByRent 0 -> throws NoSuchElement
            benchByRent -1 -> throws NoSuchElement
            addBench 0 0 5
            benchByRent 0 -> 0
            benchByRent 1 -> throws NoSuchElement
            benchByRent -1 -> throws NoSuchElement
            benchByRent MIN -> throws NoSuchElement
            benchByRent MAX -> throws NoSuchElement
            benchByRent 256 -> throws NoSuchElement
            """);
        Script.test("Promise 48: the positions of ten benches", Script.benches(10) + """
            benchByRent 0 -> 0
            benchByRent 9 -> 9
            benchByRent 10 -> throws NoSuchElement
            benchByRent -1 -> throws NoSuchElement
            setRent 9 4
            benchByRent 0 -> 9
            benchByRent 1 -> 0
            benchByRent 9 -> 8
            setRent 9 5
            benchByRent 0 -> 0
            benchByRent 1 -> 9
            """);
        Script.test("Promise 48: with the same rent the one that is not let first, then the lower index", """
            addTenant 99
            addTenant 99
            addBench 5 0 7
            addBench 5 1 7
            addBench 5 2 7
            addBench 5 3 7
            benchByRent 0 -> 0
            benchByRent 3 -> 3
            lease 0 0 2
            benchByRent 0 -> 1
            benchByRent 1 -> 2
            benchByRent 2 -> 3
            benchByRent 3 -> 0
            lease 1 2 2
            benchByRent 0 -> 1
            benchByRent 1 -> 3
            benchByRent 2 -> 0
            benchByRent 3 -> 2
            setRent 2 6
            benchByRent 0 -> 2
            setRent 2 8
            benchByRent 3 -> 2
            benchByRent 2 -> 0
            passMonths 2
            benchByRent 0 -> 0
            benchByRent 1 -> 1
            """);
        Script.test("Promise 48: by the rent with its noise", """
            addBench 0 0 5
            addBench 5 5 6
            benchByRent 0 -> 0
            addFountain 5 4 3
            benchByRent 0 -> 0
            setLoudness 0 4
            benchByRent 0 -> 1
            benchByRent 1 -> 0
            switchFountain 0
            benchByRent 0 -> 0
            """);
    }

    private static void tenantByCoins() {
        Script.test("Promise 49: positions of no tenant, of one tenant and beside it", """
            tenantByCoins 0 -> throws NoSuchElement
            tenantByCoins -1 -> throws NoSuchElement
            addTenant 0
            tenantByCoins 0 -> 0
            tenantByCoins 1 -> throws NoSuchElement
            tenantByCoins -1 -> throws NoSuchElement
            tenantByCoins MIN -> throws NoSuchElement
            tenantByCoins MAX -> throws NoSuchElement
            tenantByCoins 256 -> throws NoSuchElement
            """);
        Script.test("Promise 49: the positions of eight tenants", Script.tenants(8, 50) + """
            tenantByCoins 0 -> 0
            tenantByCoins 7 -> 7
            tenantByCoins 8 -> throws NoSuchElement
            tenantByCoins -1 -> throws NoSuchElement
            giveCoins 7 1
            tenantByCoins 0 -> 7
            tenantByCoins 1 -> 0
            tenantByCoins 7 -> 6
            """);
        Script.test("Promise 49: with as many coins the one with fewer defaults first, then the lower index", """
            addBench 0 0 5
            addTenant 5
            addTenant 5
            addTenant 5
            lease 0 0 9
            passMonths 1 -> 1
            giveCoins 0 5
            coinsOf 0 -> 5
            defaultsOf 0 -> 1
            tenantByCoins 0 -> 1
            tenantByCoins 1 -> 2
            tenantByCoins 2 -> 0
            lease 1 0 9
            passMonths 1 -> 1
            giveCoins 1 5
            tenantByCoins 0 -> 2
            tenantByCoins 1 -> 0
            tenantByCoins 2 -> 1
            lease 0 0 9
            passMonths 1 -> 1
            giveCoins 0 5
            tenantByCoins 1 -> 1
            tenantByCoins 2 -> 0
            giveCoins 0 1
            tenantByCoins 0 -> 0
            """);
        Script.test("Promise 49: coins without deposits", """
            addBench 0 0 2
            addTenant 10
            addTenant 9
            tenantByCoins 0 -> 0
            lease 0 0 1
            tenantByCoins 0 -> 1
            endLease 0
            tenantByCoins 0 -> 0
            """);
    }

    private static void shares() {
        Script.test("Promise 50: no benches, one bench, ten benches", """
            meanRent -> throws Arithmetic
            addBench 0 0 1
            meanRent -> 1.0
            undo
            meanRent -> throws Arithmetic
            """ + Script.benches(10) + "meanRent -> 9.5\n");
        Script.test("Promise 50: a mean between two numbers, as a double", """
            addBench 0 0 1
            addBench 0 1 2
            meanRent -> 1.5
            addBench 0 2 2
            meanRent -> 1.6666666666666667
            addFountain 0 3 9
            meanRent -> 1.0
            """);
        Script.test("Promise 51: no benches, none let, all let", """
            letShare -> throws Arithmetic
            addTenant 50
            letShare -> throws Arithmetic
            addBench 0 0 1
            letShare -> 0.0
            lease 0 0 1
            letShare -> 1.0
            addBench 0 1 1
            letShare -> 0.5
            addBench 0 2 1
            letShare -> 0.33333334
            passMonths 1
            letShare -> 0.0
            """);
        Script.test("Promise 51: one of ten benches", Script.benches(10) + """
            addTenant 50
            lease 0 0 1
            letShare -> 0.1
            """);
    }

    private static void isConsistent() {
        Script.test("Promise 52: an empty park and a full one", "isConsistent -> true\n" + Script.benches(10) + """
            addFountain 2 0 9
            addFountain 2 1 9
            addFountain 3 2 9
            addFountain 5 5 9
            setNoiseLimit 20
            """ + Script.tenants(8, 40) + """
            lease 0 0 12
            lease 1 1 1
            lease 2 2 6
            lease 3 3 7
            lease 4 4 12
            lease 5 5 12
            lease 6 6 12
            lease 7 9 12
            isConsistent -> true
            setNoiseLimit 8
            isConsistent -> true
            passMonths 1
            isConsistent -> true
            setRent 2 20
            isConsistent -> true
            passMonths 12
            isConsistent -> true
            undo
            isConsistent -> true
            """);
    }

    // ---- text output

    private static void writeBench() {
        Script.test("Promise 53: the example of the document", """
            addBench 4 4 1
            addBench 3 3 1
            addBench 0 5 8
            addFountain 0 4 3
            repeat 3 addTenant 0
            addTenant 7
            lease 3 2 12
            text writeBench 2 -> 2@0,5$7~1=3/12
            text writeBench 0 -> 0@4,4$1~0
            """);
        Script.test("Promise 53: rents, noises and months of one and of two digits", """
            addBench 2 2 10
            addTenant 99
            text writeBench 0 -> 0@2,2$10~0
            setRent 0 9
            text writeBench 0 -> 0@2,2$9~0
            lease 0 0 9
            text writeBench 0 -> 0@2,2$9~0=0/9
            renew 0 1
            text writeBench 0 -> 0@2,2$9~0=0/10
            setRent 0 20
            addFountain 2 3 9
            addFountain 2 1 4
            text writeBench 0 -> 0@2,2$11~9=0/10
            setLoudness 1 5
            text writeBench 0 -> 0@2,2$10~10=0/10
            setLoudness 1 6
            text writeBench 0 -> 0@2,2$9~11=0/10
            """);
        Script.test("Promise 53: the shortest and the longest text", Script.benches(9) + """
            addBench 3 3 20
            text writeBench 9 -> 9@3,3$20~0
            repeat 8 addTenant 99
            lease 7 9 12
            text writeBench 9 -> 9@3,3$20~0=7/12
            addFountain 3 4 9
            text writeBench 9 -> 9@3,3$13~7=7/12
            addFountain 2 3 5
            text writeBench 9 -> 9@3,3$10~10=7/12
            addFountain 4 3 9
            setLoudness 1 9
            addFountain 3 2 9
            text writeBench 9 -> 9@3,3$1~28=7/12
            setRent 0 1
            text writeBench 0 -> 0@0,0$1~0
            outputAt 9 -> throws IndexOutOfBounds
            """);
        Script.test("Promise 53: a refused call leaves the earlier output", """
            writeBench 0 -> throws IndexOutOfBounds
            outputAt 0 -> throws IndexOutOfBounds
            addBench 0 0 5
            text writeBench 0 -> 0@0,0$5~0
            writeBench 1 -> throws IndexOutOfBounds
            writeBench -1 -> throws IndexOutOfBounds
            outputAt 0 -> 0
            outputAt 8 -> 0
            outputAt 9 -> throws IndexOutOfBounds
            """);
        Script.test("Promise 53: the output keeps what was written when the bench changes", """
            addBench 0 0 5
            text writeBench 0 -> 0@0,0$5~0
            setRent 0 9
            outputAt 6 -> 5
            undo
            undo
            outputAt 6 -> 5
            """);
    }

    private static void writeRow() {
        Script.test("Promise 54: rows 0 to 5", """
            addBench 0 0 5
            addBench 5 5 5
            text writeRow 0 -> 0.....
            text writeRow 5 -> .....1
            writeRow -1 -> throws IndexOutOfBounds
            writeRow 6 -> throws IndexOutOfBounds
            writeRow MIN -> throws IndexOutOfBounds
            writeRow MAX -> throws IndexOutOfBounds
            outputAt 5 -> 1
            outputAt 6 -> throws IndexOutOfBounds
            text writeRow 3 -> ......
            """);
        Script.test("Promise 54: full rows, all ten indices", Script.benches(10) + """
            addFountain 1 4 1
            addFountain 1 5 1
            text writeRow 0 -> 012345
            text writeRow 1 -> 6789FF
            switchFountain 1
            text writeRow 1 -> 6789Ff
            switchFountain 0
            switchFountain 1
            text writeRow 1 -> 6789fF
            """);
        Script.test("Promises 53 and 54: each takes the place of the other's output", """
            addBench 0 0 5
            text writeBench 0 -> 0@0,0$5~0
            text writeRow 0 -> 0.....
            outputAt 6 -> throws IndexOutOfBounds
            outputAt 8 -> throws IndexOutOfBounds
            text writeBench 0 -> 0@0,0$5~0
            outputAt 8 -> 0
            """);
    }

    private static void outputAt() {
        Script.test("Promise 55: the output is empty at first", """
            outputAt 0 -> throws IndexOutOfBounds
            outputAt -1 -> throws IndexOutOfBounds
            outputAt 1 -> throws IndexOutOfBounds
            outputAt MAX -> throws IndexOutOfBounds
            """);
        Script.test("Promise 55: the first and the last character, and what lies beside them", """
            addBench 0 3 5
            writeRow 0 -> 6
            outputAt -1 -> throws IndexOutOfBounds
            outputAt 0 -> .
            outputAt 3 -> 0
            outputAt 5 -> .
            outputAt 6 -> throws IndexOutOfBounds
            outputAt 256 -> throws IndexOutOfBounds
            outputAt MIN -> throws IndexOutOfBounds
            outputAt MAX -> throws IndexOutOfBounds
            """);
        Script.test("Promise 55: undo and the snapshot do not cover the output", """
            saveSnapshot -> 0
            addBench 0 0 5
            text writeBench 0 -> 0@0,0$5~0
            undo -> 0
            outputAt 8 -> 0
            outputAt 9 -> throws IndexOutOfBounds
            restoreSnapshot -> 0
            outputAt 8 -> 0
            outputAt 9 -> throws IndexOutOfBounds
            """);
    }
}
