/** The edges of tenants, leases and months: the terms, and the promises 21 to 40. */
public final class LeaseEdgesTest {
    /** A bench of rent 5 in a corner, and two tenants with 20 coins each. */
    private static final String CORNER = "addBench 0 0 5\naddTenant 20\naddTenant 20\n";
    // Tenant 0 signs at rent 1 and then has fewer coins than the rent: one default more.
    private static final String DEFAULT = """
        setRent 0 1
        lease 0 0 12
        setRent 0 20
        passMonths 1
        """;
    /** Tenant 0 has 2 coins and so many defaults; tenant 1 has 50 coins; bench 0 has rent 5. */
    private static final String POOR = "addBench 0 0 5\naddTenant 5\naddTenant 50\n";
    private static final String TWO_DEFAULTS = POOR + DEFAULT + DEFAULT + "setRent 0 5\n";
    private static final String BANNED = POOR + DEFAULT + DEFAULT + DEFAULT + "setRent 0 5\n";
    private static final String FULL = Script.benches(10) + Script.tenants(8, 50);

    public static void main(String[] args) {
        tenants();
        bans();
        benchOf();
        canLease();
        cheapestFor();
        lease();
        leaseReasons();
        endLease();
        renew();
        deposits();
        defaultMonth();
        passMonths();
        endsOfLeases();
        incomes();
        indices();
        Check.finish();
    }

    // ---- tenants

    private static void tenants() {
        Script.test("Tenants: there are at most 8 tenants, numbered from 0 as they are added", """
            addTenant 1 -> 0
            addTenant 2 -> 1
            addTenant 3 -> 2
            addTenant 4 -> 3
            addTenant 5 -> 4
            addTenant 6 -> 5
            addTenant 7 -> 6
            tenantCount -> 7
            addTenant 8 -> 7
            tenantCount -> 8
            addTenant 9 -> rejected TENANT_LIMIT 8
            tenantCount -> 8
            allCoins -> 36
            allCoinsGiven -> 36
            coinsOf 0 -> 1
            coinsOf 7 -> 8
            coinsOf 8 -> throws IndexOutOfBounds
            undo -> 7
            addTenant 9 -> 7
            coinsOf 7 -> 9
            """);
        Script.test("Promise 21: coins, 0 to 99", """
            addTenant 0 -> 0
            addTenant 99 -> 1
            addTenant -1 -> throws IllegalArgument
            addTenant 100 -> throws IllegalArgument
            addTenant MIN -> throws IllegalArgument
            addTenant MAX -> throws IllegalArgument
            tenantCount -> 2
            coinsOf 0 -> 0
            coinsOf 1 -> 99
            allCoinsGiven -> 99
            """);
        Script.test("Promise 21: wrong coins come ahead of TENANT_LIMIT", Script.tenants(8, 5) + """
            addTenant 100 -> throws IllegalArgument
            addTenant -1 -> throws IllegalArgument
            addTenant 99 -> rejected TENANT_LIMIT 8
            addTenant 0 -> rejected TENANT_LIMIT 8
            """);
        Script.test("Promise 22: coins, 1 to 99", """
            addTenant 0
            giveCoins 0 1 -> 1
            giveCoins 0 99 -> 100
            giveCoins 0 0 -> throws IllegalArgument
            giveCoins 0 100 -> throws IllegalArgument
            giveCoins 0 -1 -> throws IllegalArgument
            giveCoins 0 MIN -> throws IllegalArgument
            giveCoins 0 MAX -> throws IllegalArgument
            coinsOf 0 -> 100
            allCoins -> 100
            allCoinsGiven -> 100
            """);
        Script.test("Promise 22: no such tenant comes ahead of wrong coins", """
            giveCoins 0 0 -> throws IndexOutOfBounds
            addTenant 5
            giveCoins 1 0 -> throws IndexOutOfBounds
            giveCoins -1 100 -> throws IndexOutOfBounds
            giveCoins 0 100 -> throws IllegalArgument
            """);
        Script.test("Promises 22 and 24: coins far above 99, and above 32767", """
            addTenant 99
            addTenant 0
            repeat 2 giveCoins 0 99 -> 297
            repeat 340 giveCoins 0 99 -> 33957
            coinsOf 0 -> 33957
            coinsOf 1 -> 0
            allCoins -> 33957
            allCoinsGiven -> 33957
            tenantByCoins 0 -> 0
            tenantByCoins 1 -> 1
            """);
        Script.test("Promise 24: the coins of a tenant, without a deposit", CORNER + """
            coinsOf 0 -> 20
            lease 0 0 1 -> 5
            coinsOf 0 -> 15
            coinsOf 1 -> 20
            passMonths 1 -> 1
            coinsOf 0 -> 15
            """);
        Script.test("Promise 23: the number of tenants", """
            tenantCount -> 0
            addTenant 100 -> throws IllegalArgument
            tenantCount -> 0
            addTenant 0
            tenantCount -> 1
            undo
            tenantCount -> 0
            """);
    }

    private static void bans() {
        Script.test("Tenants: the number of defaults is 0 at first, and 3 at most", POOR + """
            defaultsOf 0 -> 0
            defaultsOf 1 -> 0
            """ + DEFAULT + "defaultsOf 0 -> 1\n" + DEFAULT + "defaultsOf 0 -> 2\n" + DEFAULT + """
            defaultsOf 0 -> 3
            defaultsOf 1 -> 0
            defaultedLeases -> 3
            lease 0 0 1 -> rejected BANNED 0
            defaultsOf 0 -> 3
            """);
        Script.test("Tenants: a tenant with 2 defaults is not banned", TWO_DEFAULTS + """
            defaultsOf 0 -> 2
            giveCoins 0 20 -> 23
            canLease 0 0 -> true
            cheapestFor 0 -> 0
            lease 0 0 2 -> 5
            """);
        Script.test("Tenants: a tenant with 3 defaults is banned, also with coins", BANNED + """
            defaultsOf 0 -> 3
            canLease 0 0 -> false
            giveCoins 0 99 -> 101
            canLease 0 0 -> false
            cheapestFor 0 -> throws NoSuchElement
            lease 0 0 2 -> rejected BANNED 0
            canLease 1 0 -> true
            passMonths 12 -> 0
            lease 0 0 2 -> rejected BANNED 0
            """);
        Script.test("Tenants: the third default is undone, and the ban with it", BANNED + """
            giveCoins 0 20
            undo -> 7
            undo -> 6
            undo -> 5
            defaultsOf 0 -> 2
            endLease 0 -> 0
            setRent 0 2
            canLease 0 0 -> true
            """);
        Script.test("Tenants: other ends of a lease are no defaults", CORNER + """
            lease 0 0 1
            passMonths 1 -> 1
            defaultsOf 0 -> 0
            lease 0 0 1
            endLease 0 -> 2
            defaultsOf 0 -> 0
            lease 0 0 1
            addFountain 0 1 9
            passMonths 1 -> 1
            defaultsOf 0 -> 0
            """);
    }

    private static void benchOf() {
        Script.test("Promise 26: the tenant has no lease before it and after each end of it", CORNER + """
            benchOf 0 -> throws NoSuchElement
            lease 0 0 1
            benchOf 0 -> 0
            benchOf 1 -> throws NoSuchElement
            passMonths 1
            benchOf 0 -> throws NoSuchElement
            lease 0 0 1
            endLease 0
            benchOf 0 -> throws NoSuchElement
            lease 0 0 9
            addFountain 0 1 9
            benchOf 0 -> 0
            passMonths 1
            benchOf 0 -> throws NoSuchElement
            switchFountain 0
            lease 0 0 9
            setRent 0 20
            passMonths 1
            defaultsOf 0 -> 1
            benchOf 0 -> throws NoSuchElement
            undo
            benchOf 0 -> 0
            """);
        Script.test("Promises 26 and 33: the last bench and the last tenant", FULL + """
            lease 7 9 1
            lease 0 0 1
            benchOf 7 -> 9
            benchOf 0 -> 0
            benchOf 6 -> throws NoSuchElement
            tenantOf 9 -> 7
            tenantOf 0 -> 0
            tenantOf 8 -> throws NoSuchElement
            """);
    }

    private static void canLease() {
        Script.test("Promise 27: not with a lease, and not a bench that is let", CORNER + """
            addBench 5 5 5
            canLease 0 0 -> true
            lease 0 0 2
            canLease 0 0 -> false
            canLease 0 1 -> false
            canLease 1 0 -> false
            canLease 1 1 -> true
            endLease 0
            canLease 0 0 -> true
            canLease 0 1 -> true
            canLease 1 0 -> true
            """);
        Script.test("Promise 27: not a bench whose noise is above the limit", CORNER + """
            addFountain 0 1 5
            noiseAt 0 0 -> 3
            canLease 0 0 -> true
            setNoiseLimit 2
            canLease 0 0 -> false
            setNoiseLimit 3
            setLoudness 0 6
            canLease 0 0 -> false
            switchFountain 0
            canLease 0 0 -> true
            """);
        Script.test("Promise 27: not with fewer coins than the rent", """
            addBench 0 0 6
            addTenant 5
            canLease 0 0 -> false
            setRent 0 5
            canLease 0 0 -> true
            setRent 0 7
            canLease 0 0 -> false
            addFountain 0 1 4
            rentOf 0 -> 5
            canLease 0 0 -> true
            addTenant 0
            setRent 0 1
            canLease 1 0 -> false
            giveCoins 1 1
            canLease 1 0 -> true
            """);
        Script.test("Promise 27: whatever it answers, it is neither a rejection nor a change", BANNED + """
            rejectionReason -> throws NoSuchElement
            canLease 0 0 -> false
            rejectionReason -> throws NoSuchElement
            canLease 1 0 -> true
            canLease 2 0 -> throws IndexOutOfBounds
            canLease 0 1 -> throws IndexOutOfBounds
            canLease 2 1 -> throws IndexOutOfBounds
            undo -> 7
            """);
    }

    private static void cheapestFor() {
        Script.test("Promise 28: no bench at all, then one that is too dear by 1", """
            addTenant 4
            cheapestFor 0 -> throws NoSuchElement
            addBench 0 0 5
            cheapestFor 0 -> throws NoSuchElement
            setRent 0 4
            cheapestFor 0 -> 0
            setNoiseLimit 0
            addFountain 0 1 3
            cheapestFor 0 -> throws NoSuchElement
            setNoiseLimit 1
            cheapestFor 0 -> 0
            """);
        Script.test("Promise 28: of several with the lowest rent, the one with the lowest index", """
            addTenant 50
            addTenant 50
            addBench 5 5 9
            addBench 5 4 7
            addBench 5 3 7
            addBench 5 2 7
            addBench 5 1 8
            cheapestFor 0 -> 1
            lease 1 1 2
            cheapestFor 0 -> 2
            cheapestFor 1 -> throws NoSuchElement
            setRent 4 6
            cheapestFor 0 -> 4
            setRent 0 6
            cheapestFor 0 -> 0
            endLease 1
            setRent 1 6
            cheapestFor 0 -> 0
            cheapestFor 1 -> 0
            """);
        Script.test("Promise 28: by the rent, not by the base rent", """
            addTenant 50
            addBench 0 0 5
            addBench 5 5 6
            cheapestFor 0 -> 0
            addFountain 5 4 4
            rentOf 1 -> 4
            cheapestFor 0 -> 1
            setLoudness 0 3
            rentOf 1 -> 5
            cheapestFor 0 -> 0
            """);
        Script.test("Promise 28: the last of ten benches alone is left", Script.benches(10) + """
            addTenant 1
            cheapestFor 0 -> throws NoSuchElement
            setRent 9 1
            cheapestFor 0 -> 9
            setRent 0 1
            cheapestFor 0 -> 0
            """);
    }

    // ---- leases

    private static void lease() {
        Script.test("Promise 29: months, 1 to 12", CORNER + """
            addBench 1 1 5
            lease 0 0 0 -> throws IllegalArgument
            lease 0 0 13 -> throws IllegalArgument
            lease 0 0 -1 -> throws IllegalArgument
            lease 0 0 MIN -> throws IllegalArgument
            lease 0 0 MAX -> throws IllegalArgument
            isLet 0 -> false
            coinsOf 0 -> 20
            lease 0 0 1 -> 5
            monthsLeft 0 -> 1
            lease 1 1 12 -> 5
            monthsLeft 1 -> 12
            """);
        Script.test("Promise 29: no such tenant or bench, then wrong months, then a rejection", """
            addBench 0 0 5
            lease 0 0 1 -> throws IndexOutOfBounds
            addTenant 4
            lease 1 0 0 -> throws IndexOutOfBounds
            lease 0 1 13 -> throws IndexOutOfBounds
            lease -1 0 0 -> throws IndexOutOfBounds
            lease 0 -1 0 -> throws IndexOutOfBounds
            lease 0 0 0 -> throws IllegalArgument
            lease 0 0 13 -> throws IllegalArgument
            lease 0 0 12 -> rejected TOO_POOR 4
            """);
        Script.test("Promise 29: the tenant pays the rent as the deposit, to the last coin", """
            addBench 0 0 20
            addBench 5 5 1
            addTenant 20
            addTenant 1
            lease 0 0 1 -> 20
            coinsOf 0 -> 0
            depositOf 0 -> 20
            lease 1 1 1 -> 1
            coinsOf 1 -> 0
            depositOf 1 -> 1
            depositTotal -> 21
            brokerCoins -> 0
            """);
        Script.test("Promise 29: the deposit is the rent with its noise, at least 1", """
            addBench 2 2 8
            addFountain 2 3 9
            setNoiseLimit 7
            addTenant 5
            rentOf 0 -> 1
            lease 0 0 3 -> 1
            depositOf 0 -> 1
            setRent 0 20
            depositOf 0 -> 1
            rentOf 0 -> 13
            """);
        Script.test("Leases: a tenant leases at most one bench, and a bench has at most one tenant", CORNER + """
            addBench 1 1 5
            lease 0 0 3 -> 5
            lease 0 1 3 -> rejected HAS_LEASE 0
            lease 1 0 3 -> rejected LET 0
            isLet 1 -> false
            tenantOf 0 -> 0
            lease 1 1 3 -> 5
            lease 0 1 3 -> rejected HAS_LEASE 0
            tenantOf 1 -> 1
            endLease 0 -> 2
            lease 0 0 4 -> 5
            monthsLeft 0 -> 4
            """);
        Script.test("Leases: all 8 tenants have one, and two benches are left", FULL + """
            lease 0 9 12
            lease 1 8 12
            lease 2 7 12
            lease 3 6 12
            lease 4 5 12
            lease 5 4 12
            lease 6 3 12
            lease 7 2 12 -> 7
            letShare -> 0.8
            lease 7 1 1 -> rejected HAS_LEASE 2
            lease 0 0 1 -> rejected HAS_LEASE 9
            benchOf 0 -> 9
            benchOf 7 -> 2
            isConsistent -> true
            """);
    }

    /** Each pair of reasons that can apply at once; banned tenants have no lease. */
    private static void leaseReasons() {
        Script.test("Promise 29: BANNED comes ahead of LET, LOUD and TOO_POOR", BANNED + """
            canLease 1 0 -> true
            coinsOf 0 -> 2
            lease 0 0 1 -> rejected BANNED 0
            lease 1 0 2
            lease 0 0 1 -> rejected BANNED 0
            addFountain 0 1 9
            lease 0 0 1 -> rejected BANNED 0
            endLease 0
            lease 0 0 1 -> rejected BANNED 0
            giveCoins 0 99
            lease 0 0 1 -> rejected BANNED 0
            """);
        Script.test("Promise 29: HAS_LEASE comes ahead of LET, LOUD and TOO_POOR", CORNER + """
            addBench 5 5 20
            lease 0 0 3
            lease 0 1 1 -> rejected HAS_LEASE 0
            lease 0 0 1 -> rejected HAS_LEASE 0
            addFountain 5 4 9
            setRent 1 1
            lease 0 1 1 -> rejected HAS_LEASE 0
            setNoiseLimit 20
            lease 1 1 5
            lease 0 1 1 -> rejected HAS_LEASE 0
            lease 1 0 1 -> rejected HAS_LEASE 1
            """);
        Script.test("Promise 29: LET comes ahead of LOUD and TOO_POOR", CORNER + """
            addTenant 4
            lease 1 0 3
            lease 2 0 1 -> rejected LET 1
            addFountain 0 1 9
            lease 0 0 1 -> rejected LET 1
            lease 2 0 1 -> rejected LET 1
            setRent 0 20
            switchFountain 0
            lease 2 0 1 -> rejected LET 1
            """);
        Script.test("Promise 29: LOUD comes ahead of TOO_POOR", """
            addBench 0 0 20
            addTenant 5
            addFountain 0 1 6
            rentOf 0 -> 16
            lease 0 0 1 -> rejected LOUD 4
            setNoiseLimit 4
            lease 0 0 1 -> rejected TOO_POOR 5
            setLoudness 0 7
            lease 0 0 1 -> rejected LOUD 5
            """);
        Script.test("Promise 29: LOUD with a noise of 1 above each limit, not at the limit", CORNER + """
            setNoiseLimit 0
            addFountain 0 1 3
            lease 0 0 1 -> rejected LOUD 1
            setLoudness 0 2
            canLease 0 0 -> true
            setLoudness 0 9
            setNoiseLimit 6
            lease 0 0 1 -> rejected LOUD 7
            setNoiseLimit 7
            lease 0 0 1 -> 1
            """);
        Script.test("Promise 29: TOO_POOR with a coin too few, and with none", """
            addBench 0 0 5
            addTenant 4
            addTenant 0
            lease 0 0 1 -> rejected TOO_POOR 4
            lease 1 0 1 -> rejected TOO_POOR 0
            coinsOf 0 -> 4
            isLet 0 -> false
            giveCoins 0 1
            lease 0 0 1 -> 5
            coinsOf 0 -> 0
            """);
        Script.test("The constants: the details of the last tenant and of the last bench", FULL + """
            lease 7 9 5
            lease 7 0 5 -> rejected HAS_LEASE 9
            lease 6 9 5 -> rejected LET 7
            endLease 8 -> rejected NOT_LET 8
            renew 0 5 -> rejected NOT_LET 0
            """);
        Script.test("The constants: BANNED tells the index of the last tenant", """
            addBench 0 0 5
            repeat 7 addTenant 0
            addTenant 5
            """ + DEFAULT.replace("lease 0", "lease 7").repeat(3) + """
            defaultsOf 7 -> 3
            lease 7 0 1 -> rejected BANNED 7
            lease 0 0 1 -> rejected TOO_POOR 0
            """);
    }

    private static void endLease() {
        int[] deposits = {1, 2, 3, 4, 19, 20};
        for (int deposit : deposits) {
            Script.test("Promise 30: half of the deposit " + deposit + ", rounded down", String.format("""
                addBench 0 0 %d
                addTenant 20
                lease 0 0 12 -> %d
                endLease 0 -> %d
                coinsOf 0 -> %d
                brokerCoins -> %d
                depositTotal -> 0
                allCoins -> 20
                isLet 0 -> false
                """, deposit, deposit, deposit / 2, 20 - deposit + deposit / 2, deposit - deposit / 2));
        }
        Script.test("Promise 30: NOT_LET before the lease, and after each end of it", CORNER + """
            endLease 0 -> rejected NOT_LET 0
            lease 0 0 1
            endLease 0 -> 2
            endLease 0 -> rejected NOT_LET 0
            lease 0 0 1
            passMonths 1
            endLease 0 -> rejected NOT_LET 0
            coinsOf 0 -> 12
            brokerCoins -> 8
            """);
        Script.test("Promise 30: an early end counts as no other end, and the base rent does not matter", CORNER + """
            lease 0 0 12 -> 5
            setRent 0 20
            addFountain 0 1 9
            endLease 0 -> 2
            defaultedLeases -> 0
            terminatedLeases -> 0
            completedLeases -> 0
            defaultsOf 0 -> 0
            month -> 0
            """);
    }

    private static void renew() {
        Script.test("Promise 31: months, 1 to 12", CORNER + """
            lease 0 0 1
            renew 0 0 -> throws IllegalArgument
            renew 0 13 -> throws IllegalArgument
            renew 0 -1 -> throws IllegalArgument
            renew 0 MIN -> throws IllegalArgument
            renew 0 MAX -> throws IllegalArgument
            monthsLeft 0 -> 1
            renew 0 1 -> 2
            monthsLeft 0 -> 2
            """);
        Script.test("Promise 31: 12 months may remain, and not 13", CORNER + """
            lease 0 0 1
            renew 0 12 -> rejected TERM_LIMIT 1
            renew 0 11 -> 12
            renew 0 1 -> rejected TERM_LIMIT 12
            renew 0 12 -> rejected TERM_LIMIT 12
            monthsLeft 0 -> 12
            passMonths 1 -> 0
            renew 0 2 -> rejected TERM_LIMIT 11
            renew 0 1 -> 12
            depositOf 0 -> 5
            """);
        Script.test("Further rules: the detail of TERM_LIMIT is what remains as renew is called", CORNER + """
            lease 0 0 7
            renew 0 6 -> rejected TERM_LIMIT 7
            renew 0 12 -> rejected TERM_LIMIT 7
            renew 0 5 -> 12
            """);
        Script.test("Promise 31: no such bench, then wrong months, then NOT_LET", CORNER + """
            renew 1 0 -> throws IndexOutOfBounds
            renew -1 13 -> throws IndexOutOfBounds
            renew 0 0 -> throws IllegalArgument
            renew 0 13 -> throws IllegalArgument
            renew 0 1 -> rejected NOT_LET 0
            renew 0 12 -> rejected NOT_LET 0
            lease 0 0 12
            renew 0 13 -> throws IllegalArgument
            renew 0 1 -> rejected TERM_LIMIT 12
            endLease 0
            renew 0 1 -> rejected NOT_LET 0
            """);
        Script.test("Promise 31: also a loud bench and a poor tenant", """
            addBench 0 0 5
            addTenant 5
            lease 0 0 1
            coinsOf 0 -> 0
            addFountain 0 1 9
            renew 0 3 -> 4
            """);
    }

    private static void deposits() {
        Script.test("Leases: nobody gets a deposit before the lease ends", """
            addBench 0 0 5
            addTenant 14
            lease 0 0 3 -> 5
            coinsOf 0 -> 9
            brokerCoins -> 0
            passMonths 1 -> 0
            coinsOf 0 -> 4
            brokerCoins -> 5
            depositOf 0 -> 5
            depositTotal -> 5
            passMonths 1 -> 1
            defaultedLeases -> 1
            coinsOf 0 -> 4
            brokerCoins -> 10
            depositTotal -> 0
            """);
        Script.test("Promises 32 to 36: a bench that is not let", CORNER + """
            isLet 0 -> false
            tenantOf 0 -> throws NoSuchElement
            depositOf 0 -> throws NoSuchElement
            monthsLeft 0 -> throws NoSuchElement
            defaultMonth 0 -> throws NoSuchElement
            lease 1 0 1
            isLet 0 -> true
            tenantOf 0 -> 1
            depositOf 0 -> 5
            monthsLeft 0 -> 1
            passMonths 1
            isLet 0 -> false
            tenantOf 0 -> throws NoSuchElement
            depositOf 0 -> throws NoSuchElement
            monthsLeft 0 -> throws NoSuchElement
            defaultMonth 0 -> throws NoSuchElement
            """);
        Script.test("Promise 35: from 12 months to the last one", """
            addBench 0 0 1
            addTenant 20
            lease 0 0 12
            monthsLeft 0 -> 12
            passMonths 1 -> 0
            monthsLeft 0 -> 11
            passMonths 10 -> 0
            monthsLeft 0 -> 1
            passMonths 1 -> 1
            monthsLeft 0 -> throws NoSuchElement
            """);
    }

    private static void defaultMonth() {
        // Behind the deposit of 5 so many coins are left for a lease of 12 months at rent 5.
        int[][] cases = {{0, 1}, {4, 1}, {5, 2}, {9, 2}, {10, 3}, {54, 11}, {55, 12}, {59, 12}};
        for (int[] coinsAndMonth : cases) {
            Script.test("Promise 36: with " + coinsAndMonth[0] + " coins, rent 5", String.format("""
                addBench 0 0 5
                addTenant %d
                lease 0 0 12
                defaultMonth 0 -> %d
                """, coinsAndMonth[0] + 5, coinsAndMonth[1]));
        }
        Script.test("Promise 36: the tenant will not default: just enough coins for all months", """
            addBench 0 0 5
            addTenant 65
            lease 0 0 12
            coinsOf 0 -> 60
            defaultMonth 0 -> throws NoSuchElement
            passMonths 12 -> 1
            completedLeases -> 1
            """);
        Script.test("Promise 36: the tenant will not default: coins for far more months than remain", """
            addBench 0 0 5
            addTenant 99
            lease 0 0 12
            defaultMonth 0 -> throws NoSuchElement
            endLease 0
            lease 0 0 1
            defaultMonth 0 -> throws NoSuchElement
            """);
        Script.test("Promise 36: the last month of a short lease", """
            addBench 0 0 5
            addTenant 9
            lease 0 0 1
            defaultMonth 0 -> 1
            giveCoins 0 1
            defaultMonth 0 -> throws NoSuchElement
            renew 0 1
            defaultMonth 0 -> 2
            """);
        Script.test("Promise 36: no default on a bench that is not quiet, as the lease is terminated", """
            addBench 0 0 5
            addTenant 5
            lease 0 0 12
            addFountain 0 1 5
            defaultMonth 0 -> 1
            setLoudness 0 6
            defaultMonth 0 -> throws NoSuchElement
            setNoiseLimit 4
            defaultMonth 0 -> 1
            """);
        Script.test("Promise 36: by the rent of today, not by the deposit", """
            addBench 0 0 1
            addTenant 13
            lease 0 0 12
            defaultMonth 0 -> throws NoSuchElement
            setRent 0 2
            defaultMonth 0 -> 7
            setRent 0 12
            defaultMonth 0 -> 2
            setRent 0 13
            defaultMonth 0 -> 1
            addFountain 0 1 3
            rentOf 0 -> 12
            defaultMonth 0 -> 2
            passMonths 1 -> 0
            defaultMonth 0 -> 1
            passMonths 1 -> 1
            defaultsOf 0 -> 1
            """);
    }

    // ---- months

    private static void passMonths() {
        Script.test("Promises 37 and 38: months, 1 to 12", """
            month -> 0
            passMonths 1 -> 0
            month -> 1
            passMonths 12 -> 0
            month -> 13
            passMonths 0 -> throws IllegalArgument
            passMonths 13 -> throws IllegalArgument
            passMonths -1 -> throws IllegalArgument
            passMonths MIN -> throws IllegalArgument
            passMonths MAX -> throws IllegalArgument
            month -> 13
            undo -> 1
            month -> 1
            """);
        Script.test("Promise 38: more than 127 and more than 255 months", """
            repeat 11 passMonths 12 -> 0
            month -> 132
            repeat 11 passMonths 12 -> 0
            month -> 264
            """);
        Script.test("Months: a tenant with as many coins as the rent pays, one with a coin less defaults", """
            addBench 0 0 5
            addBench 5 5 5
            addTenant 10
            addTenant 9
            lease 0 0 2
            lease 1 1 2
            passMonths 1 -> 1
            coinsOf 0 -> 0
            monthsLeft 0 -> 1
            defaultsOf 0 -> 0
            coinsOf 1 -> 4
            isLet 1 -> false
            defaultsOf 1 -> 1
            brokerCoins -> 10
            defaultedLeases -> 1
            """);
        Script.test("Months: the last coins pay the last month, and the deposit comes back behind it", """
            addBench 0 0 5
            addTenant 10
            lease 0 0 1
            passMonths 1 -> 1
            coinsOf 0 -> 5
            brokerCoins -> 5
            completedLeases -> 1
            defaultedLeases -> 0
            """);
        Script.test("Months: a default in the last month", """
            addBench 0 0 5
            addTenant 9
            lease 0 0 1
            passMonths 1 -> 1
            coinsOf 0 -> 4
            brokerCoins -> 5
            completedLeases -> 0
            defaultedLeases -> 1
            """);
        Script.test("Months: a bench that is not quiet comes ahead of a poor tenant", """
            addBench 0 0 20
            addTenant 20
            lease 0 0 12
            addFountain 0 1 6
            coinsOf 0 -> 0
            passMonths 1 -> 1
            coinsOf 0 -> 20
            brokerCoins -> 0
            defaultsOf 0 -> 0
            terminatedLeases -> 1
            defaultedLeases -> 0
            """);
        Script.test("Months: a noise at the limit ends no lease, a noise above it does", """
            addBench 0 0 5
            addTenant 20
            lease 0 0 5
            addFountain 0 1 5
            passMonths 1 -> 0
            coinsOf 0 -> 13
            monthsLeft 0 -> 4
            setLoudness 0 6
            passMonths 1 -> 1
            coinsOf 0 -> 18
            terminatedLeases -> 1
            brokerCoins -> 2
            """);
        Script.test("Months: a loud bench in the last month is terminated, not completed", """
            addBench 0 0 5
            addTenant 20
            lease 0 0 1
            setNoiseLimit 0
            addFountain 0 1 3
            passMonths 1 -> 1
            coinsOf 0 -> 20
            brokerCoins -> 0
            terminatedLeases -> 1
            completedLeases -> 0
            """);
        Script.test("Months: the rent is paid, not the deposit or the base rent", """
            addBench 0 0 9
            addTenant 50
            lease 0 0 5 -> 9
            addFountain 0 1 4
            rentOf 0 -> 7
            passMonths 1 -> 0
            coinsOf 0 -> 34
            brokerCoins -> 7
            depositOf 0 -> 9
            """);
    }

    private static void endsOfLeases() {
        Script.test("Promise 37: the number of leases that end, none and all 8", FULL + """
            lease 0 0 1
            lease 1 1 1
            lease 2 2 1
            lease 3 3 1
            lease 4 4 1
            lease 5 5 1
            lease 6 6 1
            lease 7 7 2
            passMonths 1 -> 7
            completedLeases -> 7
            passMonths 1 -> 1
            completedLeases -> 8
            passMonths 12 -> 0
            completedLeases -> 8
            letShare -> 0.0
            """);
        Script.test("Promise 37: each lease counts in the month in which it ends, and no longer", """
            addBench 0 0 5
            addBench 5 5 5
            addTenant 50
            addTenant 50
            lease 0 0 2
            lease 1 1 3
            passMonths 12 -> 2
            coinsOf 0 -> 40
            coinsOf 1 -> 35
            brokerCoins -> 25
            month -> 12
            """);
        Script.test("Promise 37: some months at once are the same as one by one", """
            addBench 0 0 5
            addTenant 17
            lease 0 0 12
            passMonths 2 -> 0
            coinsOf 0 -> 2
            undo
            passMonths 1 -> 0
            passMonths 1 -> 0
            coinsOf 0 -> 2
            passMonths 1 -> 1
            undo
            undo
            undo
            passMonths 3 -> 1
            coinsOf 0 -> 2
            brokerCoins -> 15
            """);
        Script.test("Promises 45 to 47: each end is counted as what it is", """
            addBench 0 0 5
            addBench 5 5 6
            addBench 5 0 4
            addTenant 5
            addTenant 6
            addTenant 8
            lease 0 0 9
            lease 1 1 9
            lease 2 2 1
            addFountain 0 1 9
            terminatedLeases -> 0
            defaultedLeases -> 0
            completedLeases -> 0
            passMonths 1 -> 3
            terminatedLeases -> 1
            defaultedLeases -> 1
            completedLeases -> 1
            passMonths 12 -> 0
            terminatedLeases -> 1
            defaultedLeases -> 1
            completedLeases -> 1
            undo
            undo
            terminatedLeases -> 0
            defaultedLeases -> 0
            completedLeases -> 0
            """);
        Script.test("Promise 47: more than 127 leases", Script.benches(8).replaceAll(" \\d+\n", " 1\n")
            + Script.tenants(8, 99) + ("lease 0 0 1\nlease 1 1 1\nlease 2 2 1\nlease 3 3 1\nlease 4 4 1\nlease 5 5 1\n"
            + "lease 6 6 1\nlease 7 7 1\npassMonths 1\n").repeat(17) + """
            completedLeases -> 136
            brokerCoins -> 136
            coinsOf 7 -> 82
            month -> 17
            """);
    }

    private static void incomes() {
        for (String call : new String[] {"incomeWithin", "incomeByLeases"}) {
            incomes(call);
        }
        incomeOfEachMonth();
    }

    /** Rents that are paid, defaults in the months 1, 4 and 12, a term of 6, and a bench that is not quiet. */
    private static BenchBroker mixedLeases() {
        BenchBroker b = new BenchBroker();
        int[] coins = {99, 5, 20, 12, 42, 30};
        int[] rents = {5, 5, 5, 1, 6, 7};
        int[] terms = {12, 12, 12, 12, 6, 12};
        for (int i = 0; i < coins.length; i++) {
            b.addBench(i, 0, rents[i]);
            b.addTenant(coins[i]);
            b.lease(i, i, terms[i]);
        }
        b.setNoiseLimit(1);
        b.addFountain(5, 1, 4);
        return b;
    }

    private static void incomeOfEachMonth() {
        for (int months = 1; months <= 12; months++) {
            int term = months;
            Check.test("Promises 39 and 40: the income within " + term + " is what the broker then gets", () -> {
                BenchBroker b = mixedLeases();
                BenchBroker later = mixedLeases();
                later.passMonths(term);
                Check.due(later.brokerCoins(), () -> b.incomeWithin(term));
                Check.due(later.brokerCoins(), () -> b.incomeByLeases(term));
                Check.due(0, () -> b.brokerCoins());
                Check.due(0, () -> b.month());
                Check.due(1, () -> mixedLeases().defaultMonth(1));
                Check.due(4, () -> mixedLeases().defaultMonth(2));
                Check.due(12, () -> mixedLeases().defaultMonth(3));
            });
        }
        int[] due = {5 + 5 + 5 + 1 + 6, 10 + 5 + 10 + 2 + 12, 15 + 5 + 15 + 3 + 18, 20 + 5 + 20 + 4 + 24,
            25 + 5 + 20 + 5 + 30, 30 + 5 + 20 + 6 + 36, 35 + 5 + 20 + 7 + 36, 40 + 5 + 20 + 8 + 36,
            45 + 5 + 20 + 9 + 36, 50 + 5 + 20 + 10 + 36, 55 + 5 + 20 + 11 + 36, 60 + 5 + 20 + 12 + 36};
        Check.test("Promises 39 and 40: the incomes of 1 to 12 months", () -> {
            for (int months = 1; months <= 12; months++) {
                int term = months;
                Check.due(due[term - 1], () -> mixedLeases().incomeWithin(term));
                Check.due(due[term - 1], () -> mixedLeases().incomeByLeases(term));
            }
        });
    }

    private static void incomes(String call) {
        Script.test("Promises 39 and 40: months, 1 to 12, " + call, CORNER + """
            INCOME 1 -> 0
            INCOME 12 -> 0
            lease 0 0 3
            INCOME 1 -> 5
            INCOME 12 -> 15
            INCOME 0 -> throws IllegalArgument
            INCOME 13 -> throws IllegalArgument
            INCOME -1 -> throws IllegalArgument
            INCOME MIN -> throws IllegalArgument
            INCOME MAX -> throws IllegalArgument
            """.replace("INCOME", call));
        Script.test("Promises 39 and 40: rents until the lease is completed, " + call, """
            addBench 0 0 5
            addTenant 20
            lease 0 0 3
            INCOME 2 -> 10
            INCOME 3 -> 15
            INCOME 4 -> 15
            passMonths 2 -> 0
            INCOME 1 -> 5
            INCOME 2 -> 5
            """.replace("INCOME", call));
        Script.test("Promises 39 and 40: the deposit comes in the month of the default, " + call, """
            addBench 0 0 5
            addTenant 19
            lease 0 0 3
            setRent 0 6
            INCOME 1 -> 6
            INCOME 2 -> 12
            INCOME 3 -> 17
            INCOME 12 -> 17
            giveCoins 0 4
            INCOME 3 -> 18
            giveCoins 0 99
            INCOME 12 -> 18
            """.replace("INCOME", call));
        Script.test("Promises 39 and 40: a default at once, and one in the 12th month, " + call, """
            addBench 0 0 5
            addBench 5 5 1
            addTenant 5
            addTenant 12
            lease 0 0 12
            INCOME 1 -> 5
            INCOME 12 -> 5
            endLease 0
            lease 1 1 12
            INCOME 11 -> 11
            INCOME 12 -> 12
            setRent 1 20
            INCOME 1 -> 1
            """.replace("INCOME", call));
        Script.test("Promises 39 and 40: nothing from a bench that is not quiet, " + call, """
            addBench 0 0 5
            addTenant 30
            lease 0 0 12
            addFountain 0 1 5
            INCOME 1 -> 2
            INCOME 12 -> 24
            setLoudness 0 6
            INCOME 1 -> 0
            INCOME 12 -> 0
            setNoiseLimit 4
            INCOME 12 -> 12
            """.replace("INCOME", call));
        Script.test("Promises 39 and 40: the sum over 8 leases, " + call, FULL + """
            lease 0 0 12
            lease 1 1 12
            lease 2 2 12
            lease 3 3 12
            lease 4 4 12
            lease 5 5 12
            lease 6 6 12
            lease 7 7 1
            INCOME 1 -> 68
            INCOME 12 -> 346
            brokerCoins -> 0
            month -> 0
            """.replace("INCOME", call));
    }

    // ---- indices

    private static void indices() {
        // A call, its answer for index 0, and its answer for the last index, where bench 9 is let to tenant 7.
        String[][] ofBench = {
            {"Promise 30: endLease I", "rejected NOT_LET 0", "7"}, {"Promise 31: renew I 1", "rejected NOT_LET 0", "4"},
            {"Promise 32: isLet I", "false", "true"}, {"Promise 33: tenantOf I", "throws NoSuchElement", "7"},
            {"Promise 34: depositOf I", "throws NoSuchElement", "14"},
            {"Promise 35: monthsLeft I", "throws NoSuchElement", "3"},
            {"Promise 36: defaultMonth I", "throws NoSuchElement", "3"},
            {"Promise 27: canLease 0 I", "true", "false"},
            {"Promise 29: lease 0 I 1", "5", "rejected LET 7"},
            {"Promise 53: writeBench I", "9", "14"}};
        for (String[] row : ofBench) {
            indices(row, 10);
        }
        String[][] ofTenant = {
            {"Promise 22: giveCoins I 5", "55", "41"}, {"Promise 24: coinsOf I", "50", "36"},
            {"Promise 25: defaultsOf I", "0", "0"}, {"Promise 26: benchOf I", "throws NoSuchElement", "9"},
            {"Promise 27: canLease I 0", "true", "false"}, {"Promise 28: cheapestFor I", "0", "throws NoSuchElement"},
            {"Promise 29: lease I 0 1", "5", "rejected HAS_LEASE 9"}};
        for (String[] row : ofTenant) {
            indices(row, 8);
        }
    }

    private static void indices(String[] row, int most) {
        String call = row[0].substring(row[0].indexOf(": ") + 2);
        String missing = " -> throws IndexOutOfBounds\n";
        StringBuilder lines = new StringBuilder(call.replace("I", "0")).append(missing);
        lines.append("addBench 0 0 5\naddTenant 50\n");
        for (String index : new String[] {"-1", "1", "MIN", "MAX", "256", "65536"}) {
            lines.append(call.replace("I", index)).append(missing);
        }
        lines.append(call.replace("I", "0")).append(" -> ").append(row[1]).append('\n');
        Script.test(row[0] + ", one bench and one tenant", lines.toString());
        Script.test(row[0] + ", all of them", FULL + "lease 7 9 3 -> 14\n" + call.replace("I", "-1") + missing
            + call.replace("I", String.valueOf(most)) + missing
            + call.replace("I", String.valueOf(most - 1)) + " -> " + row[2] + "\n");
    }
}
