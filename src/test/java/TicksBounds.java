/** Sections 2 to 4, of packs, loans and ticks: each sentence that names a boundary, on both sides of it. */
final class TicksBounds {
    private static final Bounds BOUNDS = Bounds.ALL;
    /** Nothing wears, so that what is owed is what was sent. */
    private static final String FREE = "packs 1 1;curve 0 0 0 0;pack 1000 500 0;pack 1000 0 0;cable 0 1 0 1000;"
            + "contract 0 1 1000 0 0";

    private TicksBounds() {
    }

    static void check() {
        rounding();
        mostPoints();
        leastRoom();
        losses();
        quarters();
        quarterBefore();
        waysOfGiving();
        rates();
        lossesInCables();
        dueTimes();
        openStates();
        pointsOfLoans();
        interest();
        owed();
        outstanding();
        suns();
        trips();
        sending();
        givenBackState();
        sendingBack();
        gotBack();
        graces();
        order();
        time();
    }

    private static void says(String part, String words) {
        BOUNDS.says(part, words);
    }

    private static void rounding() {
        says("Section 2", "Its room is CAPACITY less its points / FADE");
        PackLoans x = Checks.loaded("packs 10 1;pack 100 100;pack 100 100");
        int[] drains = {9, 1, 9, 1};
        int[] rooms = {100, 99, 99, 98};
        for (int i = 0; i < drains.length; i++) {
            x.drain(0, drains[i]);
            BOUNDS.same("by " + x.pack(0, 3) + " points", x.pack(0, 1), rooms[i]);
        }
        BOUNDS.same("by no points", x.pack(1, 1), 100);
        PackLoans y = Checks.loaded("packs 10000 1;curve 101 101 101 101;pack 200 200 0");
        y.drain(0, 99);
        BOUNDS.same("by 9999 points and the largest FADE", y.pack(0, 1), 200);
        y.drain(0, 1);
        BOUNDS.same("by 10100 points", y.pack(0, 1), 199);
        PackLoans z = Checks.loaded("packs 1 1;pack 200 200");
        z.drain(0, 1);
        BOUNDS.same("by 1 point and the smallest FADE", z.pack(0, 1), 199);
    }

    private static void mostPoints() {
        says("Section 2", "points of wear (0 at first, at most 1000000000)");
        PackLoans x = Checks.loaded("packs 1 1;curve 1000 1000 1000 1000;pack 100000 100000 0");
        BOUNDS.same("at first", x.pack(0, 3), 0);
        x.drain(0, 100000);
        BOUNDS.same("100000 times 1000", x.pack(0, 3), 100000000);
        for (int i = 0; i < 17; i++) {
            x.charge(0, 100000);
            x.drain(0, 100000);
        }
        x.charge(0, 50000);
        x.drain(0, 49999);
        BOUNDS.same("almost the most", x.pack(0, 3), 999999000);
        x.charge(0, 9);
        x.saveSnapshot(0);
        x.drain(0, 1);
        BOUNDS.same("just the most", x.pack(0, 3), 1000000000);
        BOUNDS.same("no more in what will be", x.wearIn(0, 1), 0);
        x.drain(0, 1);
        BOUNDS.same("no more", x.pack(0, 3), 1000000000);
        x.restoreSnapshot(0);
        x.drain(0, 2);
        BOUNDS.same("1000 too many", x.pack(0, 3), 1000000000);
        x.restoreSnapshot(0);
        x.addTrip(0, 0, 3);
        BOUNDS.same("more up to the most", x.wearIn(0, 1), 1000);
        x.run(1);
        BOUNDS.same("2000 too many", x.pack(0, 3), 1000000000);
        BOUNDS.same("its room", x.pack(0, 1), 50000);
    }

    /** Drains 1 at a time, by 1 point and FADE 1 each, and compares the room behind each. */
    private static void rooms(int capacity, int first, int... due) {
        PackLoans x = Checks.loaded("packs 1 1;pack " + capacity + " " + capacity);
        if (first > 0) {
            x.drain(0, first);
        }
        for (int room : due) {
            BOUNDS.same("CAPACITY " + capacity + " less " + x.pack(0, 3), x.pack(0, 1), room);
            x.charge(0, 1);
            x.drain(0, 1);
        }
    }

    private static void leastRoom() {
        says("Section 2", "but at least half of CAPACITY (rounded up)");
        rooms(2, 0, 2, 1, 1, 1);
        rooms(3, 0, 3, 2, 2, 2, 2);
        rooms(4, 0, 4, 3, 2, 2, 2);
        rooms(100, 48, 52, 51, 50, 50);
        rooms(101, 48, 53, 52, 51, 51);
        rooms(99999, 49998, 50001, 50000, 50000);
        rooms(100000, 49999, 50001, 50000, 50000);
        PackLoans x = Checks.loaded("packs 1 1;curve 1000 1000 1000 1000;pack 99 99 0;pack 2 2 0");
        x.drain(0, 99);
        x.drain(1, 2);
        BOUNDS.same("many points", x.pack(0, 1), 50);
        BOUNDS.same("many points of the smallest", x.pack(1, 1), 1);
    }

    private static void losses() {
        says("Section 2", "When it gets more than it has room for");
        PackLoans x = Checks.loaded("packs 1 1;curve 0 0 0 0;pack 100 90 0;pack 100 90 0;pack 100 90 0;pack 1000 900 0;"
                + "cable 2 3 0 99;contract 3 2 99 0 0;sun 1 0 0 10;sun 1 1 1 1;sun 2 5 5 9");
        BOUNDS.same("as much as the room", x.charge(0, 10), 100);
        BOUNDS.same("nothing is lost", x.total(3), 0);
        BOUNDS.same("1 more", x.charge(0, 1), 100);
        BOUNDS.same("it is lost", x.total(3), 1);
        x.run(1);
        BOUNDS.same("a sun up to the room", x.pack(1, 2), 100);
        BOUNDS.same("nothing more is lost", x.total(3), 1);
        x.run(1);
        BOUNDS.same("a sun of 1 more", x.pack(1, 2), 100);
        BOUNDS.same("it is lost", x.total(3), 2);
        x.lend(0, 10, 99);
        x.run(1);
        BOUNDS.same("a loan up to the room", x.pack(2, 2), 100);
        BOUNDS.same("nothing more is lost", x.total(3), 2);
        x.lend(0, 1, 99);
        x.run(1);
        BOUNDS.same("a loan of 1 more", x.pack(2, 2), 100);
        BOUNDS.same("it is lost", x.total(3), 3);
        x.charge(3, 111);
        x.giveBack(1);
        x.run(1);
        BOUNDS.same("1 given back to a full pack", x.pack(3, 2), 1000);
        BOUNDS.same("what had no room", x.total(3), 3 + 1);
        says("Section 2", "or its room becomes less than its charge, what is above the room is lost");
        PackLoans y = Checks.loaded("packs 1 1;curve 2 2 2 2;curve 3 3 3 3;pack 100 100;pack 100 100 0;pack 100 99 0;"
                + "pack 100 99 1");
        int[] charges = {99, 98, 98, 97};
        int[] lost = {0, 1, 1, 2};
        for (int pack = 0; pack < 4; pack++) {
            y.drain(pack, 1);
            BOUNDS.same("charge of " + pack, y.pack(pack, 2), charges[pack]);
            BOUNDS.same("lost behind " + pack, y.total(3), lost[pack]);
        }
    }

    private static void quarters() {
        says("Section 2", "The quarter of a pack is 4 * its charge / its room, but at most 3");
        PackLoans x = Checks.loaded("packs 1 1;pack 100 0;pack 100 24;pack 100 25;pack 100 49;pack 100 50;pack 100 74;"
                + "pack 100 75;pack 100 100");
        int[] due = {0, 0, 1, 1, 2, 2, 3, 3};
        for (int pack = 0; pack < due.length; pack++) {
            BOUNDS.same("quarter of " + x.pack(pack, 2) + " in 100", x.pack(pack, 8), due[pack]);
        }
        PackLoans y = Checks.loaded("packs 1 1;pack 101 25;pack 101 26;pack 101 50;pack 101 51;pack 101 75;pack 101 76;"
                + "pack 101 100;pack 101 101");
        for (int pack = 0; pack < due.length; pack++) {
            BOUNDS.same("quarter of " + y.pack(pack, 2) + " in 101", y.pack(pack, 8), (pack + 1) / 2 > 3 ? 3
                    : (pack + 1) / 2);
        }
        PackLoans z = Checks.loaded("packs 1 1;pack 100 100;pack 2 0;pack 2 1;pack 2 2;pack 100000 99999");
        z.drain(0, 75);
        BOUNDS.same("25 in a room of 50", z.pack(0, 8), 2);
        z.drain(0, 1);
        BOUNDS.same("24 in a room of 50", z.pack(0, 8), 1);
        BOUNDS.same("0 in 2", z.pack(1, 8), 0);
        BOUNDS.same("1 in 2", z.pack(2, 8), 2);
        BOUNDS.same("2 in 2", z.pack(3, 8), 3);
        BOUNDS.same("99999 in 100000", z.pack(4, 8), 3);
        z.drain(3, 1);
        BOUNDS.same("1 in 1", z.pack(3, 8), 3);
        z.drain(3, 1);
        BOUNDS.same("0 in 1", z.pack(3, 8), 0);
    }

    private static void quarterBefore() {
        says("Section 2", "W of its curve for the quarter in which it was before");
        for (int[] row : new int[][] {{25, 10, 1}, {50, 100, 10}, {75, 1000, 100}}) {
            PackLoans x = Checks.loaded("packs 10000 1;curve 1 10 100 1000;pack 100 " + row[0] + " 0");
            x.drain(0, 1);
            BOUNDS.same("1 of " + row[0], x.pack(0, 3), row[1]);
            x.drain(0, 1);
            BOUNDS.same("1 of 1 less", x.pack(0, 3), row[1] + row[2]);
        }
        PackLoans x = Checks.loaded("packs 10000 1;curve 1 10 100 1000;pack 100 100 0;pack 100 24 0");
        x.drain(0, 100);
        BOUNDS.same("all of a full pack", x.pack(0, 3), 100000);
        x.drain(0, 100);
        BOUNDS.same("nothing of an empty pack", x.pack(0, 3), 100000);
        x.drain(1, 24);
        BOUNDS.same("in the lowest quarter", x.pack(1, 3), 24);
    }

    private static void waysOfGiving() {
        says("Section 2", "When a pack gives some charge (to a trip, a drain, a loan, or to give one back)");
        PackLoans x = Checks.loaded("packs 10000 10000;curve 1 10 100 1000;pack 100 75 0;pack 100 0 0;cable 0 1 0 100;"
                + "contract 0 1 100 0 0;trip 0 0 1");
        x.run(1);
        BOUNDS.same("a trip", x.pack(0, 3), 1000);
        x.lend(0, 24, 1);
        x.run(1);
        BOUNDS.same("a loan", x.pack(0, 3), 1000 + 2400);
        BOUNDS.same("getting wears nothing", x.pack(1, 3), 0);
        x.run(1);
        BOUNDS.same("to give one back", x.pack(1, 3), 24);
        BOUNDS.same("getting back wears nothing", x.pack(0, 3), 3400);
        x.drain(0, 4);
        BOUNDS.same("a drain", x.pack(0, 3), 3400 + 400);
        x.charge(1, 5);
        BOUNDS.same("a charge wears nothing", x.pack(1, 3), 24);
        says("Section 2", "Trips and drains are uses");
        BOUNDS.same("used", x.total(1), 1 + 4);
    }

    private static void rates() {
        says("Section 2", "A cable can send RATE in each tick, both ways together");
        PackLoans x = Checks.loaded("packs 1 1;curve 0 0 0 0;pack 100 50 0;pack 100 50 0;pack 100 50 0;cable 0 1 0 10;"
                + "cable 1 2 0 1;contract 0 1 50 0 9;contract 1 0 50 0 9;contract 1 2 9 0 9");
        x.lend(0, 10, 99);
        x.run(1);
        BOUNDS.same("RATE", x.cable(0, 1, 2), 10);
        BOUNDS.same("all was sent", x.loan(0, 6), 1);
        x.lend(0, 11, 99);
        x.run(1);
        BOUNDS.same("RATE of 1 more", x.cable(0, 1, 2), 10);
        BOUNDS.same("not all was sent", x.loan(1, 6), 0);
        x.lend(1, 10, 99);
        x.lend(2, 2, 99);
        x.run(1);
        BOUNDS.same("the rest one way", x.loan(1, 2), 11);
        BOUNDS.same("9 the other way", x.loan(2, 2), 9);
        BOUNDS.same("both together", x.cable(0, 1, 2), 10);
        BOUNDS.same("another cable", x.cable(2, 1, 2), 1);
        x.run(1);
        BOUNDS.same("1 in the tick behind it", x.cable(0, 1, 2), 1);
        BOUNDS.same("all was sent", x.loan(2, 6), 1);
        x.giveBack(0);
        x.lend(1, 5, 99);
        x.run(1);
        BOUNDS.same("given back by all that the cable sends", x.loan(0, 4), 10);
        BOUNDS.same("nothing is left for a loan", x.loan(4, 2), 0);
    }

    /** What is lost of an amount that is lent at once. */
    private static void lost(int loss, int amount, int due) {
        PackLoans x = Checks.loaded("packs 1 1;curve 0 0 0 0;pack 100000 100000 0;pack 100000 0 0;cable 0 1 " + loss
                + " 10000;contract 0 1 100000 0 0");
        x.lend(0, amount, 9);
        x.run(1);
        String name = amount + " by a LOSS of " + loss;
        BOUNDS.same("lost of " + name, x.cable(0, 1, 3), due);
        BOUNDS.same("lost in all of " + name, x.total(2), due);
        BOUNDS.same("rest of " + name, x.pack(1, 2), amount - due);
        BOUNDS.same("sent of " + name, x.loan(0, 2), amount);
    }

    private static void lossesInCables() {
        says("Section 2", "Of x that is sent, x * LOSS / 1000 is lost; the pack at the other end gets the rest");
        lost(0, 10000, 0);
        lost(1, 999, 0);
        lost(1, 1000, 1);
        lost(1, 1999, 1);
        lost(1, 2000, 2);
        lost(100, 9, 0);
        lost(100, 10, 1);
        lost(100, 19, 1);
        lost(100, 20, 2);
        lost(333, 3, 0);
        lost(900, 1, 0);
        lost(900, 2, 1);
        lost(900, 9, 8);
        lost(900, 10, 9);
        lost(900, 10000, 9000);
        PackLoans x = Checks.loaded(FREE);
        x.setCable(0, 1, 100, 10);
        x.lend(0, 25, 9);
        x.run(3);
        BOUNDS.same("lost in each tick by itself", x.cable(0, 1, 3), 2);
        x.run(4);
        BOUNDS.same("lost so far", x.total(2), 2);
    }

    private static void dueTimes() {
        says("Section 3", "at first the time when it is given plus the ticks that were told");
        PackLoans x = Checks.loaded(FREE);
        x.lend(0, 1, 1);
        x.lend(0, 1, 999);
        BOUNDS.same("0 and 1", x.loan(0, 7), 1);
        BOUNDS.same("0 and 999", x.loan(1, 7), 999);
        x.run(1000);
        x.lend(0, 1, 1);
        BOUNDS.same("1000 and 1", x.loan(2, 7), 1001);
        for (int i = 0; i < 8; i++) {
            x.run(1000);
        }
        x.run(999);
        x.lend(0, 1, 999);
        BOUNDS.same("9999 and 999", x.loan(3, 7), 10998);
    }

    private static void openStates() {
        says("Section 3", "It is open in the states 0, 1 and 2");
        int[] states = {3, 5, 4, 1, 2, 0};
        for (int loan = 0; loan < states.length; loan++) {
            PackLoans x = Bounds.allStates();
            BOUNDS.same("state", x.loan(loan, 6), states[loan]);
            BOUNDS.same("forgive in the state " + states[loan], x.forgive(loan) == PackLoans.WRONG_STATE ? 0 : 1,
                    states[loan] <= 2 ? 1 : 0);
            BOUNDS.same("open loans then", x.count(7), states[loan] <= 2 ? 2 : 3);
        }
    }

    private static void pointsOfLoans() {
        says("Section 3", "(what it gave times W each time, at most 100000000 in all)");
        PackLoans x = Checks.loaded("packs 10000 1;curve 1000 1000 1000 1000;pack 100000 100000 0;pack 100000 0;"
                + "cable 0 1 0 10000;contract 0 1 100000 0 0");
        x.lend(0, 100000, 99);
        x.run(9);
        BOUNDS.same("of 90000", x.loan(0, 3), 90000000);
        x.run(1);
        BOUNDS.same("of 100000", x.loan(0, 3), 100000000);
        BOUNDS.same("owed", x.loan(0, 5), 100100000);
        PackLoans y = Checks.loaded("packs 10000 1;curve 1 2 3 4;pack 100 100 0;pack 100 0;cable 0 1 0 26;"
                + "contract 0 1 100 0 0");
        y.lend(0, 100, 99);
        int[] points = {104, 182, 234, 256};
        for (int due : points) {
            y.run(1);
            BOUNDS.same("by quarters", y.loan(0, 3), due);
            BOUNDS.same("as those of the lender", y.pack(0, 3), due);
        }
    }

    private static void interest() {
        says("Section 3", "its interest is its points / WORTH, rounded up");
        for (int[] row : new int[][] {{10, 9, 1}, {10, 10, 1}, {10, 11, 2}, {10, 20, 2}, {10, 21, 3}, {10000, 1, 1},
            {10000, 200, 1}, {1, 1, 1}, {1, 200, 200}}) {
            PackLoans x = Checks.loaded("packs 10000 " + row[0] + ";pack 300 250;pack 300 0;cable 0 1 0 300;"
                    + "contract 0 1 300 0 0");
            x.lend(0, row[1], 9);
            x.run(1);
            BOUNDS.same(row[1] + " points by a WORTH of " + row[0], x.loan(0, 5) - row[1], row[2]);
        }
        PackLoans x = Checks.loaded(FREE);
        x.lend(0, 100, 9);
        x.run(1);
        BOUNDS.same("no points", x.loan(0, 5), 100);
        PackLoans y = Checks.loaded("packs 10000 10000;curve 101 100 1 0;pack 1000 249 0;pack 1000 0 0;cable 0 1 0 300;"
                + "contract 0 1 300 0 0");
        BOUNDS.same("9999 points by the largest WORTH", y.interest(0, 99), 1);
        BOUNDS.same("10100 points by the largest WORTH", y.interest(0, 100), 2);
        y.charge(0, 1);
        BOUNDS.same("10000 points by the largest WORTH", y.interest(0, 100), 1);
    }

    private static void owed() {
        says("Section 3", "less what was got back, at least 0 (0 if it is not open)");
        // 1 is owed: 2 are sent back by a LOSS of 1, and 2 are got.
        PackLoans x = Checks.loaded("packs 1 1;curve 0 0 0 0;pack 100 50 0;pack 100 50 0;cable 0 1 1 99;"
                + "contract 0 1 9 0 9");
        x.lend(0, 1, 1);
        BOUNDS.same("nothing was sent", x.loan(0, 5), 0);
        x.run(1);
        BOUNDS.same("1 was sent", x.loan(0, 5), 1);
        x.run(1);
        BOUNDS.same("more was got back", x.loan(0, 4), 2);
        BOUNDS.same("nothing is owed", x.loan(0, 5), 0);
        BOUNDS.same("nothing is outstanding", x.contract(0, 5), 0);
        BOUNDS.same("owes", x.owes(1), 0);
        BOUNDS.same("LIMIT", x.hindrance(0, 9), 0);
        BOUNDS.same("above LIMIT", x.hindrance(0, 10), 2);
        PackLoans y = Bounds.allStates();
        int[] due = {0, 0, 0, 11, 21, 0};
        for (int loan = 0; loan < due.length; loan++) {
            BOUNDS.same("loan " + loan + " in the state " + y.loan(loan, 6), y.loan(loan, 5), due[loan]);
        }
        y.forgive(4);
        BOUNDS.same("forgiven", y.loan(4, 5), 0);
    }

    private static void outstanding() {
        says("Section 3", "of all its open loans, what is owed and, in the state 0, what was not yet sent");
        PackLoans x = Checks.loaded("packs 1 1;curve 0 0 0 0;pack 1000 500 0;pack 1000 0 0;cable 0 1 0 30;"
                + "contract 0 1 100 0 9;contract 0 1 100 0 9");
        BOUNDS.same("no loans", x.contract(0, 5), 0);
        x.lend(0, 40, 9);
        x.lend(0, 60, 9);
        x.lend(1, 7, 9);
        BOUNDS.same("nothing was sent", x.contract(0, 5), 100);
        BOUNDS.same("of another contract", x.contract(1, 5), 7);
        x.run(1);
        BOUNDS.same("some was sent", x.contract(0, 5), 100);
        x.run(2);
        BOUNDS.same("one was sent, one in part", x.contract(0, 5), 100);
        BOUNDS.same("its state", x.loan(1, 6), 0);
        x.giveBack(1);
        BOUNDS.same("still in the state 0", x.contract(0, 5), 100);
        x.drain(1, 1000);
        x.run(1);
        BOUNDS.same("given back", x.loan(1, 6), 2);
        BOUNDS.same("what was not sent is not outstanding", x.contract(0, 5), 40 + 50);
        x.forgive(0);
        BOUNDS.same("what was forgiven is not outstanding", x.contract(0, 5), 50);
    }

    private static void suns() {
        says("Section 4", "the sum of the GAINs of its suns for which t modulo 24 is FROM to TO");
        PackLoans x = Checks.loaded("packs 1 1;pack 100000 0;pack 100000 0;pack 100000 0;pack 100000 0;sun 0 2 4 1;"
                + "sun 0 4 4 10;sun 1 0 0 1;sun 1 23 23 10;sun 2 0 23 1");
        int first = 0;
        int second = 0;
        for (int t = 0; t < 50; t++) {
            x.run(1);
            int hour = t % 24;
            first += hour == 2 || hour == 3 ? 1 : hour == 4 ? 11 : 0;
            second += hour == 0 ? 1 : hour == 23 ? 10 : 0;
            BOUNDS.same("from 2 to 4, at " + t, x.pack(0, 2), first);
            BOUNDS.same("at 0 and 23, at " + t, x.pack(1, 2), second);
            BOUNDS.same("all day, at " + t, x.pack(2, 2), t + 1);
        }
        BOUNDS.same("no sun", x.pack(3, 2), 0);
        BOUNDS.same("taken in", x.total(0), first + second + 50);
    }

    private static void trips() {
        says("Section 4", "each trip with TIME t is made if its pack has NEED or more: it gives NEED");
        PackLoans x = Checks.loaded("packs 10000 1;pack 100 50;pack 100 50;pack 100 50;pack 100 0;trip 0 2 50;"
                + "trip 1 2 51;trip 2 2 49;trip 3 2 1;sun 1 3 3 50");
        x.run(2);
        for (int trip = 0; trip < 4; trip++) {
            BOUNDS.same("before its TIME: " + trip, x.trip(trip, 3), 0);
        }
        x.run(1);
        int[] states = {1, 2, 1, 2};
        int[] charges = {0, 50, 1, 0};
        for (int trip = 0; trip < 4; trip++) {
            BOUNDS.same("trip " + trip, x.trip(trip, 3), states[trip]);
            BOUNDS.same("charge of " + trip, x.pack(trip, 2), charges[trip]);
        }
        says("Section 4", "Otherwise it is missed, and nothing is given");
        BOUNDS.same("charge", x.pack(1, 2), 50);
        BOUNDS.same("points", x.pack(1, 3), 0);
        BOUNDS.same("used", x.total(1), 50 + 49);
        x.run(3);
        BOUNDS.same("it stays missed", x.trip(1, 3), 2);
        BOUNDS.same("nothing is given later", x.pack(1, 2), 100);
        PackLoans last = Checks.loaded("packs 1 1;pack 100 50;trip 0 0 1;trip 0 9999 1");
        last.run(1);
        BOUNDS.same("at the time 0", last.trip(0, 3), 1);
        for (int i = 0; i < 9; i++) {
            last.run(1000);
        }
        last.run(998);
        BOUNDS.same("the time 9999 has not passed", last.trip(1, 3), 0);
        BOUNDS.same("it would be made", last.chargeIn(0, 1), 48);
    }

    private static void sending() {
        says("Section 4", "In the state 0, the lender sends what is not yet sent, "
                + "but at most what it has above its reserve");
        for (int[] row : new int[][] {{480, 20, 1}, {481, 19, 0}, {479, 20, 1}, {499, 1, 0}, {500, 0, 0}, {501, 0, 0},
            {100000, 0, 0}}) {
            PackLoans x = Checks.loaded(FREE);
            x.lend(0, 20, 9);
            x.setReserve(0, row[0]);
            x.run(1);
            BOUNDS.same("sent by a reserve of " + row[0], x.loan(0, 2), row[1]);
            BOUNDS.same("state by a reserve of " + row[0], x.loan(0, 6), row[2]);
            BOUNDS.same("charge by a reserve of " + row[0], x.pack(0, 2), 500 - row[1]);
        }
        says("Section 4", "and at most what the cable can still send in this tick; if all has been sent then, "
                + "the state becomes 1");
        for (int[] row : new int[][] {{20, 20, 1}, {19, 19, 0}, {21, 20, 1}, {1, 1, 0}}) {
            PackLoans x = Checks.loaded(FREE);
            x.setCable(0, 1, 0, row[0]);
            x.lend(0, 20, 9);
            x.run(1);
            BOUNDS.same("sent by a RATE of " + row[0], x.loan(0, 2), row[1]);
            BOUNDS.same("state by a RATE of " + row[0], x.loan(0, 6), row[2]);
        }
        PackLoans x = Checks.loaded(FREE);
        x.setCable(0, 1, 0, 30);
        x.lend(0, 20, 9);
        x.lend(0, 20, 9);
        x.lend(0, 20, 9);
        x.run(1);
        BOUNDS.same("the first", x.loan(0, 2), 20);
        BOUNDS.same("what the cable can still send", x.loan(1, 2), 10);
        BOUNDS.same("nothing", x.loan(2, 2), 0);
    }

    private static void givenBackState() {
        says("Section 4", "a loan in the state 0 or 1 gets the state 2 if t is the time "
                + "from which on it is given back");
        PackLoans x = Checks.loaded(FREE);
        x.lend(0, 20, 3);
        x.run(3);
        BOUNDS.same("1 before it", x.loan(0, 6), 1);
        x.run(1);
        BOUNDS.same("at that time", x.loan(0, 6), 3);
        PackLoans y = Checks.loaded(FREE);
        y.setCable(0, 1, 0, 5);
        y.lend(0, 20, 3);
        y.run(3);
        BOUNDS.same("the state 0, 1 before it", y.loan(0, 6), 0);
        BOUNDS.same("sent", y.loan(0, 2), 15);
        y.run(1);
        BOUNDS.same("nothing more is sent", y.loan(0, 2), 15);
        BOUNDS.same("it is given back", y.loan(0, 4), 5);
        says("Section 4", "if t is the time from which on it is given back, or later");
        PackLoans late = Checks.loaded(FREE.replace("contract 0 1 1000 0 0", "contract 0 1 1000 0 3"));
        late.lend(0, 20, 1);
        late.run(1);
        late.drain(1, 20);
        late.run(3);
        BOUNDS.same("2 later", late.loan(0, 6), 2);
        late.charge(1, 5);
        late.setReserve(0, 0);
        BOUNDS.same("its time stays", late.loan(0, 7), 1);
        late.run(1);
        BOUNDS.same("it is given back all the same", late.loan(0, 4), 5);
        says("Section 4", "In the state 2, if nothing is owed, it is closed");
        PackLoans z = Checks.loaded(FREE);
        z.lend(0, 20, 1);
        z.setReserve(0, 500);
        z.run(1);
        BOUNDS.same("nothing was sent", z.loan(0, 6), 0);
        z.run(1);
        BOUNDS.same("closed without a sending", z.loan(0, 6), 3);
        BOUNDS.same("nothing was got back", z.loan(0, 4), 0);
        BOUNDS.same("not broken", z.contract(0, 7), 0);
    }

    /** Of a loan that is owed, what is sent in the tick in which it is given back, and what is got back. */
    private static void back(int loss, int owed, int sent, int gotBack) {
        PackLoans x = Checks.loaded(FREE);
        x.setCable(0, 1, 0, 10000);
        x.lend(0, owed, 1);
        x.run(1);
        x.charge(1, 1000 - owed);
        x.setCable(0, 1, loss, 10000);
        x.run(1);
        String name = owed + " by a LOSS of " + loss;
        BOUNDS.same("sent of " + name, x.cable(0, 1, 2), sent);
        BOUNDS.same("got back of " + name, x.loan(0, 4), gotBack);
        BOUNDS.same("closed: " + name, x.loan(0, 6), 3);
    }

    private static void sendingBack() {
        says("Section 4", "otherwise the borrower sends owed * 1000 / (1000 - LOSS), rounded up");
        back(0, 1, 1, 1);
        back(0, 500, 500, 500);
        back(1, 1, 2, 2);
        back(1, 499, 500, 500);
        back(500, 1, 2, 1);
        back(500, 250, 500, 250);
        back(900, 1, 10, 1);
        back(900, 100, 1000, 100);
        back(899, 101, 1000, 101);
        back(899, 100, 991, 101);
        back(3, 3, 4, 4);
        says("Section 4", "rounded up, but at most its charge, and at most what the cable can still send in this tick");
        for (int[] row : new int[][] {{20, 100, 20, 3}, {19, 100, 19, 4}, {21, 100, 20, 3}, {0, 100, 0, 4},
            {100, 20, 20, 3}, {100, 19, 19, 4}, {100, 1, 1, 4}}) {
            PackLoans x = Checks.loaded(FREE);
            x.lend(0, 20, 1);
            x.run(1);
            x.drain(1, 1000);
            if (row[0] > 0) {
                x.charge(1, row[0]);
            }
            x.setReserve(1, 100000);
            x.setCable(0, 1, 0, row[1]);
            x.run(1);
            String name = " by a charge of " + row[0] + " and a RATE of " + row[1];
            BOUNDS.same("got back" + name, x.loan(0, 4), row[2]);
            BOUNDS.same("state" + name, x.loan(0, 6), row[3]);
        }
    }

    private static void gotBack() {
        says("Section 4", "what the lender gets (also what it has no room for) counts as got back");
        PackLoans x = Checks.loaded(FREE);
        x.lend(0, 20, 1);
        x.run(1);
        x.charge(0, 505);
        x.run(1);
        BOUNDS.same("got back", x.loan(0, 4), 20);
        BOUNDS.same("closed", x.loan(0, 6), 3);
        BOUNDS.same("charge", x.pack(0, 2), 1000);
        BOUNDS.same("lost", x.total(3), 5);
        PackLoans parts = Checks.loaded(FREE.replace("contract 0 1 1000 0 0", "contract 0 1 1000 0 9"));
        parts.lend(0, 20, 1);
        parts.run(1);
        parts.setCable(0, 1, 0, 8);
        int[] sums = {8, 16, 20};
        for (int sum : sums) {
            parts.run(1);
            BOUNDS.same("got back so far", parts.loan(0, 4), sum);
            BOUNDS.same("still owed", parts.loan(0, 5), 20 - sum);
        }
        says("Section 4", "If nothing is owed then, the loan is closed");
        PackLoans y = Checks.loaded(FREE);
        y.lend(0, 20, 1);
        y.lend(0, 20, 1);
        y.run(1);
        y.drain(1, 1);
        y.run(1);
        BOUNDS.same("all was given back", y.loan(0, 6), 3);
        BOUNDS.same("1 is still owed", y.loan(1, 6), 4);
        says("Section 4", "its points grow no more by it");
        PackLoans z = Checks.loaded("packs 1 1;curve 5 5 5 5;pack 100 50;pack 100 50 0;cable 0 1 0 99;"
                + "contract 0 1 99 0 0");
        z.lend(0, 7, 1);
        z.run(1);
        BOUNDS.same("sent", z.loan(0, 3), 7);
        z.run(1);
        BOUNDS.same("given back", z.loan(0, 3), 7);
        BOUNDS.same("wear of the borrower", z.pack(1, 3), 14 * 5);
    }

    private static void graces() {
        says("Section 4", "otherwise, if t is GRACE or more behind the time from which on it is given back");
        for (int grace : new int[] {0, 1, 2, 99}) {
            PackLoans x = Checks.loaded(FREE.replace("contract 0 1 1000 0 0", "contract 0 1 1000 0 " + grace));
            BOUNDS.same("GRACE", x.contract(0, 4), grace);
            x.lend(0, 20, 5);
            x.run(1);
            x.drain(1, 20);
            x.run(4);
            if (grace > 0) {
                x.run(grace);
                BOUNDS.same("1 before GRACE " + grace, x.loan(0, 6), 2);
                BOUNDS.same("the contract", x.contract(0, 7), 0);
            } else {
                BOUNDS.same("before it is given back", x.loan(0, 6), 1);
            }
            x.saveSnapshot(0);
            x.run(1);
            BOUNDS.same("at GRACE " + grace, x.loan(0, 6), 4);
            says("Section 4", "it is broken, and so is its contract");
            BOUNDS.same("GRACE " + grace, x.contract(0, 7), 1);
            x.restoreSnapshot(0);
            x.charge(1, 20);
            x.run(1);
            BOUNDS.same("closed in the last tick of GRACE " + grace, x.loan(0, 6), 3);
            BOUNDS.same("not broken by GRACE " + grace, x.contract(0, 7), 0);
        }
    }

    private static void order() {
        says("Section 4", "(1) By numbers of packs");
        PackLoans x = Checks.loaded("packs 1 1;pack 100 0;pack 100 0;sun 1 0 0 7;trip 1 0 7;trip 0 0 1");
        x.run(1);
        BOUNDS.same("a sun before a trip", x.trip(0, 3), 1);
        BOUNDS.same("no sun", x.trip(1, 3), 2);
        says("Section 4", "(2) By numbers");
        PackLoans y = Checks.loaded("packs 1000 1;pack 100 10;pack 100 10;trip 0 1 6;trip 0 1 5;trip 0 1 4;trip 1 0 10;"
                + "trip 1 0 10");
        y.run(2);
        int[] states = {1, 2, 1, 1, 2};
        for (int trip = 0; trip < states.length; trip++) {
            BOUNDS.same("trip " + trip, y.trip(trip, 3), states[trip]);
        }
        says("Section 4", "(3) By numbers of loans");
        PackLoans z = Checks.loaded("packs 1 1;curve 0 0 0 0;pack 100 10 0;pack 100 10 0;pack 100 0 0;cable 0 1 0 10;"
                + "cable 1 2 0 20;contract 0 1 99 0 9;contract 1 2 99 0 9;trip 0 0 1");
        z.lend(0, 10, 9);
        z.lend(1, 10, 9);
        z.drain(1, 9);
        z.run(1);
        BOUNDS.same("a trip before a loan", z.loan(0, 2), 9);
        BOUNDS.same("a loan behind a loan", z.loan(1, 2), 10);
        PackLoans other = Checks.loaded("packs 1 1;curve 0 0 0 0;pack 100 10 0;pack 100 10 0;pack 100 0 0;"
                + "cable 0 1 0 10;cable 1 2 0 20;contract 0 1 99 0 9;contract 1 2 99 0 9");
        other.lend(1, 10, 9);
        other.lend(0, 10, 9);
        other.drain(1, 9);
        other.run(1);
        BOUNDS.same("a loan before a loan", other.loan(0, 2), 1);
    }

    private static void time() {
        says("Section 4", "(4) The time is t + 1");
        PackLoans x = new PackLoans();
        BOUNDS.same("run without packs", x.run(1), 1);
        BOUNDS.same("now", x.now(), 1);
        BOUNDS.same("run", x.run(1000), 1001);
    }
}
