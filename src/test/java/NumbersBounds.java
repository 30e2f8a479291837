/** Promises 6 to 19 and 40 to 43: each sentence that names a boundary, on both sides of it. */
final class NumbersBounds {
    private static final Bounds BOUNDS = Bounds.ALL;
    private static final String PAIR = "packs 10 100;pack 1000 500;pack 1000 100;cable 0 1 0 50;contract 0 1 300 0 0";

    private NumbersBounds() {
    }

    static void check() {
        counts();
        packs();
        cables();
        gains();
        trips();
        contracts();
        loans();
        time();
        totals();
        parts();
        interests();
        hindrances();
        hindrancesInOrder();
        cheapest();
        neediestAndRichest();
        debts();
        fullest();
    }

    private static void says(String part, String words) {
        BOUNDS.says(part, words);
    }

    private static void noArgument(String part, String name, int low, int high, Bounds.CallWith call) {
        says(part, "Throws `IllegalArgumentException` if " + name + " is out of range");
        BOUNDS.range(Bounds::begun, name, low, high, call);
    }

    private static void noIndex(String part, String name, int number, Bounds.CallWith call) {
        says(part, "Throws `IndexOutOfBoundsException` if there is no such " + name);
        BOUNDS.index(Bounds::begun, name, number, call);
    }

    /** The answers for each what, from 0, of which the sentence tells. */
    private static void answers(String part, String words, java.util.function.IntToLongFunction call, long... due) {
        says(part, words);
        for (int what = 0; what < due.length; what++) {
            BOUNDS.same("what " + what, call.applyAsLong(what), due[what]);
        }
    }

    /** A loan of 60 of which 40 were sent, 2 were lost and 44 points were made; a trip of 4 was made. */
    private static PackLoans telling() {
        PackLoans x = Checks.loaded("packs 4 10;curve 1 1 1 1;curve 1 1 1 1;pack 99 50;pack 200 150 1;cable 0 1 50 40;"
                + "contract 1 0 70 5 6;contract 0 1 80 7 8;trip 1 0 4;trip 0 6 3");
        x.setReserve(1, 9);
        x.lend(0, 60, 8);
        x.run(1);
        return x;
    }

    private static void noPackOfNone(Bounds.CallWith call) {
        BOUNDS.index(PackLoans::new, "a pack of none", 0, call);
    }

    private static void counts() {
        noArgument("Promise 6", "what", 0, 8, PackLoans::count);
        BOUNDS.range(PackLoans::new, "what of a new object", 0, 8, PackLoans::count);
        says("Promise 6", "0 packs, 1 curves, 2 cables, 3 suns, 4 trips, 5 contracts, 6 loans");
        StringBuilder text = new StringBuilder("packs1 1" + ";curve0 0 0 0".repeat(4) + ";pack9 9".repeat(8));
        for (int other = 1; other < 8; other++) {
            text.append(";cable0 ").append(other).append(" 0 1");
        }
        for (int other = 2; other < 7; other++) {
            text.append(";cable1 ").append(other).append(" 0 1");
        }
        text.append(";sun0 0 0 1".repeat(12)).append(";contract0 1 1 0 0".repeat(4));
        PackLoans full = Checks.loaded(text.toString());
        int[] due = {8, 4, 12, 12, 0, 4, 0, 0, 0};
        for (int what = 0; what < due.length; what++) {
            BOUNDS.same("none: count(" + what + ")", new PackLoans().count(what), 0);
            BOUNDS.same("many: count(" + what + ")", full.count(what), due[what]);
        }
        PackLoans x = Checks.loaded("packs1 1;pack99 50;pack99 50;cable0 1 0 1" + ";contract0 1 2 0 0".repeat(8)
                + ";trip0 0 1".repeat(16));
        for (int loan = 0; loan < 16; loan++) {
            x.lend(loan % 8, 1, 9);
        }
        BOUNDS.same("all trips", x.count(4), 16);
        BOUNDS.same("all contracts", x.count(5), 8);
        BOUNDS.same("all loans", x.count(6), 16);
        says("Promise 6", "7 loans that are open");
        BOUNDS.same("all are open", x.count(7), 16);
        BOUNDS.same("of the states 0 to 5", Bounds.allStates().count(7), 3);
        BOUNDS.same("loans of the states 0 to 5", Bounds.allStates().count(6), 6);
        says("Promise 6", "8 actions that can be taken back");
        PackLoans y = Checks.loaded("packs 1 1;pack 9 9");
        for (int actions = 0; actions <= 10; actions++) {
            BOUNDS.same("behind " + actions, y.count(8), Math.min(8, actions));
            y.run(1);
        }
        y.undo();
        BOUNDS.same("behind an undo", y.count(8), 7);
    }

    private static void packs() {
        noIndex("Promise 7", "pack", 2, (x, pack) -> x.pack(pack, 0));
        noPackOfNone((x, pack) -> x.pack(pack, 0));
        noArgument("Promise 7", "what", 0, 8, (x, what) -> x.pack(1, what));
        PackLoans told = telling();
        answers("Promise 7", "`what`: 0 CAPACITY, 1 its room (section 2), 2 its charge, 3 its points of wear, "
                + "4 the number of its curve, 5 its reserve, 6 its trips that were made, 7 those that were missed, "
                + "8 the quarter in which it is", what -> told.pack(1, what), 200, 189, 106, 44, 1, 9, 1, 0, 2);
        says("Promise 7", "6 its trips that were made, 7 those that were missed");
        PackLoans x = Checks.loaded("packs 1 1;pack 99 50;pack 99 9;pack 99 9;trip 0 0 10;trip 0 0 10;trip 0 0 99;"
                + "trip 1 0 9;trip 1 0 9;trip 1 0 9;trip 0 1 1");
        int[][] due = {{2, 1}, {1, 2}, {0, 0}};
        for (int pack = 0; pack < 3; pack++) {
            BOUNDS.same("none was made by " + pack, x.pack(pack, 6), 0);
            BOUNDS.same("none was missed by " + pack, x.pack(pack, 7), 0);
        }
        x.run(1);
        for (int pack = 0; pack < 3; pack++) {
            BOUNDS.same("made by " + pack, x.pack(pack, 6), due[pack][0]);
            BOUNDS.same("missed by " + pack, x.pack(pack, 7), due[pack][1]);
        }
        x.dropTrip(6);
        BOUNDS.same("made by 0 when another is dropped", x.pack(0, 6), 2);
        PackLoans y = Checks.loaded("packs 1 1;pack 99 0" + ";trip 0 0 1".repeat(16));
        y.run(1);
        BOUNDS.same("all were missed", y.pack(0, 7), 16);
        BOUNDS.same("none was made", y.pack(0, 6), 0);
        PackLoans z = Checks.loaded("packs 1 1;pack 99 99" + ";trip 0 0 1".repeat(16));
        z.run(1);
        BOUNDS.same("all were made", z.pack(0, 6), 16);
        BOUNDS.same("none was missed", z.pack(0, 7), 0);
    }

    private static void cables() {
        noIndex("Promise 8", "pack", 2, (x, pack) -> x.cable(pack, 0, 0));
        BOUNDS.index(Bounds::begun, "other", 2, (x, other) -> x.cable(0, other, 0));
        noPackOfNone((x, pack) -> x.cable(pack, pack, 0));
        noArgument("Promise 8", "what", 0, 3, (x, what) -> x.cable(0, 1, what));
        BOUNDS.range(Bounds::begun, "what without a cable", 0, 3, (x, what) -> x.cable(1, 1, what));
        PackLoans told = telling();
        answers("Promise 8", "`what`: 0 LOSS, 1 RATE, 2 what was sent through it in the latest tick, "
                + "3 what was lost in it so far", what -> told.cable(0, 1, what), 50, 40, 40, 2);
        says("Promise 8", "NONE if there is no cable between them");
        PackLoans x = Checks.loaded("packs 1 1;pack 99 50;pack 99 9;pack 99 9;cable 2 0 100 9;contract 0 2 99 0 0");
        for (int what = 0; what <= 3; what++) {
            BOUNDS.same("to itself", x.cable(0, 0, what), PackLoans.NONE);
            BOUNDS.same("0 and 1", x.cable(0, 1, what), PackLoans.NONE);
            BOUNDS.same("1 and 2", x.cable(1, 2, what), PackLoans.NONE);
            BOUNDS.same("both ways", x.cable(0, 2, what), x.cable(2, 0, what));
        }
        says("Promise 8", "2 what was sent through it in the latest tick");
        BOUNDS.same("before the first tick", x.cable(0, 2, 2), 0);
        x.lend(0, 12, 99);
        BOUNDS.same("before the next tick", x.cable(0, 2, 2), 0);
        int[] sent = {9, 3, 0};
        int[] lost = {0, 0, 0};
        for (int tick = 0; tick < 3; tick++) {
            x.run(1);
            BOUNDS.same("tick " + tick, x.cable(0, 2, 2), sent[tick]);
            BOUNDS.same("lost behind tick " + tick, x.cable(2, 0, 3), lost[tick]);
        }
        x.lend(0, 1, 99);
        x.run(2);
        BOUNDS.same("of the latest of two ticks", x.cable(0, 2, 2), 0);
    }

    private static void gains() {
        noIndex("Promise 9", "pack", 2, (x, pack) -> x.gainAt(pack, 0));
        noPackOfNone((x, pack) -> x.gainAt(pack, 0));
        says("Promise 9", "`hour`: 0 to 23");
        noArgument("Promise 9", "hour", 0, 23, (x, hour) -> x.gainAt(1, hour));
        says("Promise 9", "Returns what all suns of a pack give in an hour of the day");
        BOUNDS.same("the hour before", Bounds.begun().gainAt(1, 4), 0);
        BOUNDS.same("the first hour", Bounds.begun().gainAt(1, 5), 10);
        BOUNDS.same("the last hour", Bounds.begun().gainAt(1, 6), 10);
        BOUNDS.same("the hour behind", Bounds.begun().gainAt(1, 7), 0);
        says("Promise 9", "Returns the sum of their GAINs");
        PackLoans x = Checks.loaded("packs 1 1;pack 99 50;pack 99 9;sun 0 0 0 1;sun 0 23 23 10;sun 0 5 7 100;"
                + "sun 0 7 9 1000;sun 1 0 23 10000");
        for (int hour = 0; hour < 24; hour++) {
            int due = (hour == 0 ? 1 : 0) + (hour == 23 ? 10 : 0) + (hour >= 5 && hour <= 7 ? 100 : 0)
                    + (hour >= 7 && hour <= 9 ? 1000 : 0);
            BOUNDS.same("hour " + hour, x.gainAt(0, hour), due);
            BOUNDS.same("hour " + hour + " of another", x.gainAt(1, hour), 10000);
        }
        PackLoans y = Checks.loaded("packs 1 1;pack 99 50;pack 99 9" + ";sun 0 3 3 10000".repeat(12));
        BOUNDS.same("the largest sum", y.gainAt(0, 3), 120000);
        BOUNDS.same("no sun", y.gainAt(1, 3), 0);
    }

    private static void trips() {
        noIndex("Promise 10", "trip", 3, (x, trip) -> x.trip(trip, 0));
        BOUNDS.index(() -> Checks.loaded("packs 1 1;pack 9 9"), "a trip of none", 0, (x, trip) -> x.trip(trip, 0));
        BOUNDS.index(() -> Checks.loaded("packs 1 1;pack 9 9" + ";trip 0 0 1".repeat(16)), "a trip of all", 16,
                (x, trip) -> x.trip(trip, 0));
        noArgument("Promise 10", "what", 0, 3, (x, what) -> x.trip(2, what));
        PackLoans told = telling();
        answers("Promise 10", "`what`: 0 its pack, 1 TIME, 2 NEED, 3 its state", what -> told.trip(1, what), 0, 6, 3,
                0);
        says("Promise 10", "3 its state: 0 to come, 1 made, 2 missed");
        PackLoans x = Bounds.begun();
        BOUNDS.same("made", x.trip(0, 3), 1);
        BOUNDS.same("missed", x.trip(1, 3), 2);
        BOUNDS.same("to come", x.trip(2, 3), 0);
    }

    private static void contracts() {
        noIndex("Promise 11", "contract", 2, (x, contract) -> x.contract(contract, 0));
        BOUNDS.index(PackLoans::new, "a contract of none", 0, (x, contract) -> x.contract(contract, 0));
        BOUNDS.index(() -> Checks.loaded("packs1 1;pack9 9;pack9 9;cable0 1 0 1" + ";contract0 1 2 0 0".repeat(8)),
                "a contract of all", 8, (x, contract) -> x.contract(contract, 0));
        noArgument("Promise 11", "what", 0, 9, (x, what) -> x.contract(1, what));
        PackLoans told = telling();
        answers("Promise 11", "`what`: 0 LENDER, 1 BORROWER, 2 LIMIT, 3 NOTICE, 4 GRACE, 5 what of its loans is "
                + "outstanding (section 3), 6 its loans that are open, 7 whether it was broken (1 or 0), 8 what "
                + "was sent",
                what -> told.contract(0, what), 1, 0, 70, 5, 6, 64, 1, 0, 40, 0);
        PackLoans x = Bounds.allStates();
        says("Promise 11", "5 what of its loans is outstanding (section 3), 6 its loans that are open");
        BOUNDS.same("of the states 1, 2 and 0", x.contract(0, 5), 11 + 21 + 10);
        BOUNDS.same("of the state 4", x.contract(1, 5), 0);
        BOUNDS.same("open of contract 0", x.contract(0, 6), 3);
        BOUNDS.same("open of contract 1", x.contract(1, 6), 0);
        says("Promise 11", "7 whether it was broken (1 or 0)");
        BOUNDS.same("not broken", x.contract(0, 7), 0);
        BOUNDS.same("broken", x.contract(1, 7), 1);
        x.mend(1);
        BOUNDS.same("mended", x.contract(1, 7), 0);
        says("Promise 11", "8 what was sent for its loans, 9 what lenders got back of them");
        BOUNDS.same("sent of contract 0", x.contract(0, 8), 10 + 10 + 20);
        BOUNDS.same("sent of contract 1", x.contract(1, 8), 10);
        BOUNDS.same("got back of contract 0", x.contract(0, 9), 11);
        BOUNDS.same("got back of contract 1", x.contract(1, 9), 0);
        x.charge(1, 500);
        x.run(1);
        BOUNDS.same("got back of contract 0 twice", x.contract(0, 9), 11 + 21);
        BOUNDS.same("sent with the loan of the state 0", x.contract(0, 8), 50);
        PackLoans y = Checks.loaded(PAIR);
        for (int what = 5; what <= 9; what++) {
            BOUNDS.same("nothing at first: " + what, y.contract(0, what), 0);
        }
    }

    private static void loans() {
        noIndex("Promise 12", "loan", 2, (x, loan) -> x.loan(loan, 0));
        BOUNDS.index(() -> Checks.loaded(PAIR), "a loan of none", 0, (x, loan) -> x.loan(loan, 0));
        noArgument("Promise 12", "what", 0, 7, (x, what) -> x.loan(1, what));
        PackLoans told = telling();
        answers("Promise 12", "`what`: 0 its contract, 1 its amount, 2 what of it was sent, 3 its points of wear, "
                + "4 what was got back, 5 what is still owed (section 3)", what -> told.loan(0, what), 0, 60, 40, 40, 0,
                44, 0, 8);
        says("Promise 12", "5 forgiven; 7 the time from which on it is given back");
        BOUNDS.same("what 7", told.loan(0, 7), 8);
        says("Promise 12", "6 its state: 0 it is sent, 1 it runs, 2 it is given back, 3 closed, 4 broken, 5 forgiven");
        PackLoans x = Bounds.allStates();
        int[] states = {3, 5, 4, 1, 2, 0};
        for (int loan = 0; loan < states.length; loan++) {
            BOUNDS.same("loan " + loan, x.loan(loan, 6), states[loan]);
        }
    }

    private static void time() {
        says("Promise 13", "Returns the ticks that have passed");
        PackLoans x = Checks.loaded(PAIR);
        BOUNDS.same("at first", x.now(), 0);
        x.run(1);
        BOUNDS.same("behind 1", x.now(), 1);
        for (int i = 0; i < 9; i++) {
            x.run(1000);
        }
        x.run(998);
        BOUNDS.same("at last", x.now(), 9999);
    }

    private static void totals() {
        noArgument("Promise 14", "what", 0, 5, (x, what) -> x.total(what));
        BOUNDS.range(PackLoans::new, "what of a new object", 0, 5, (x, what) -> x.total(what));
        says("Promise 14", "Returns a total since load()");
        PackLoans x = Bounds.begun();
        Checks.load(x, "packs 1 1;pack 9 8;pack 9 3");
        long[] due = {11, 0, 0, 0, 11, 0};
        for (int what = 0; what < due.length; what++) {
            BOUNDS.same("none: total(" + what + ")", new PackLoans().total(what), 0);
            BOUNDS.same("total(" + what + ") behind a load", x.total(what), due[what]);
        }
        PackLoans told = telling();
        told.charge(0, 100);
        answers("Promise 14", "1 what was used (trips, drain(int, int)), 2 what was lost in cables, "
                + "3 what was lost because a pack had no room, 4 what all packs hold now, "
                + "5 the points of wear of all packs", told::total, 300, 4, 2, 89, 205, 44);
        says("Promise 14", "0 what was taken in (what packs had at first, suns, charge(int, int), "
                + "with what had no room)");
        PackLoans y = Checks.loaded("packs 1 1;pack 9 8;pack 9 3;sun 0 1 1 10000");
        BOUNDS.same("at first", y.total(0), 11);
        y.charge(0, 1);
        BOUNDS.same("as much as there is room for", y.total(0), 12);
        BOUNDS.same("nothing lost", y.total(3), 0);
        y.charge(0, 100000);
        BOUNDS.same("what had no room", y.total(0), 100012);
        BOUNDS.same("lost", y.total(3), 100000);
        y.run(3);
        BOUNDS.same("a sun", y.total(0), 110012);
        BOUNDS.same("lost of the sun", y.total(3), 110000);
        says("Promise 14", "5 the points of wear of all packs");
        PackLoans z = Checks.loaded("packs 10000 1;curve 1000 1000 1000 1000;pack 100000 100000 0;"
                + "pack 100000 100000 0;pack 100000 100000 0");
        for (int i = 0; i < 18; i++) {
            for (int pack = 0; pack < 3; pack++) {
                z.drain(pack, 100000);
                z.charge(pack, 100000);
            }
        }
        BOUNDS.same("more than an int", z.total(5), 3000000000L);
        BOUNDS.same("what they hold", z.total(4), 3 * 50000);
        BOUNDS.same("taken in", z.total(0), 3 * 19 * 100000);
    }

    private static void parts() {
        says("Promise 15", "0.0 if nothing was taken in");
        BOUNDS.same("no packs", new PackLoans().usedPart(), 0.0);
        PackLoans x = Checks.loaded("packs 1 1;pack 3 0");
        x.drain(0, 1);
        BOUNDS.same("empty packs", x.usedPart(), 0.0);
        says("Promise 15", "which part of all that was taken in was used");
        PackLoans lost = Checks.loaded("packs 1 1;pack 3 1");
        lost.charge(0, 7);
        lost.drain(0, 2);
        BOUNDS.same("2 of 8, of which 5 were lost", lost.usedPart(), 0.25);
        says("Promise 15", "Returns (double) (used) / (double) (taken in)");
        x.charge(0, 1);
        BOUNDS.same("nothing used", x.usedPart(), 0.0);
        x.drain(0, 1);
        BOUNDS.same("all used", x.usedPart(), 1.0);
        x.charge(0, 2);
        BOUNDS.same("1 of 3", x.usedPart(), 1.0 / 3.0);
        noIndexOfFullness();
        says("Promise 16", "Returns (float) (its charge) / (float) (its room)");
        PackLoans y = Checks.loaded("packs 1 1;pack 100000 99999;pack 100000 100000;pack 100000 0;pack 3 3");
        BOUNDS.same("almost full", y.fullness(0), 99999.0f / 100000.0f);
        BOUNDS.same("full", y.fullness(1), 1.0f);
        BOUNDS.same("empty", y.fullness(2), 0.0f);
        y.drain(3, 1);
        BOUNDS.same("full by its room", y.fullness(3), 1.0f);
        y.drain(3, 1);
        BOUNDS.same("1 of 2", y.fullness(3), 0.5f);
        PackLoans z = Checks.loaded("packs 1 1;pack 2 2");
        z.drain(0, 1);
        BOUNDS.same("1 of the smallest room", z.fullness(0), 1.0f);
        z.drain(0, 1);
        BOUNDS.same("0 of the smallest room", z.fullness(0), 0.0f);
    }

    private static void noIndexOfFullness() {
        noIndex("Promise 16", "pack", 2, (x, pack) -> (long) (1000 * x.fullness(pack)));
        noPackOfNone((x, pack) -> (long) x.fullness(pack));
    }

    private static void interests() {
        noIndex("Promise 17", "contract", 2, (x, contract) -> x.interest(contract, 1));
        BOUNDS.index(PackLoans::new, "a contract of none", 0, (x, contract) -> x.interest(contract, 1));
        says("Promise 17", "`amount`: 1 to 100000");
        noArgument("Promise 17", "amount", 1, 100000, (x, amount) -> x.interest(1, amount));
        says("Promise 17", "(by at most 100000000 points)");
        PackLoans x = Checks.loaded("packs 10000 1;curve 0 9 999 1000;pack 100 75 0;pack 100 0;cable 0 1 0 9;"
                + "contract 0 1 9 0 0");
        BOUNDS.same("the most points", x.interest(0, 100000), 100000000);
        BOUNDS.same("1 of it less", x.interest(0, 99999), 99999000);
        says("Promise 17", "if all of its amount was sent at once as the lender is now");
        x.drain(0, 1);
        BOUNDS.same("in a lower quarter", x.interest(0, 100000), 99900000);
        x.drain(0, 74);
        BOUNDS.same("an empty lender", x.interest(0, 100000), 0);
    }

    private static void hindrances() {
        noIndex("Promise 18", "contract", 2, (x, contract) -> x.hindrance(contract, 1));
        BOUNDS.index(PackLoans::new, "a contract of none", 0, (x, contract) -> x.hindrance(contract, 1));
        says("Promise 18", "`amount`: 1 to 100000");
        noArgument("Promise 18", "amount", 1, 100000, (x, amount) -> x.hindrance(1, amount));
        says("Promise 18", "2 more than LIMIT would be outstanding");
        PackLoans x = Checks.loaded(PAIR);
        BOUNDS.same("LIMIT", x.hindrance(0, 300), 0);
        BOUNDS.same("1 more", x.hindrance(0, 301), 2);
        x.lend(0, 100, 9);
        BOUNDS.same("up to LIMIT", x.hindrance(0, 200), 0);
        BOUNDS.same("1 more", x.hindrance(0, 201), 2);
        x.lend(0, 200, 9);
        BOUNDS.same("nothing more", x.hindrance(0, 1), 2);
        x.forgive(0);
        BOUNDS.same("what was forgiven", x.hindrance(0, 100), 0);
        BOUNDS.same("1 more", x.hindrance(0, 101), 2);
        says("Promise 18", "3 the lender has less than the amount above its reserve");
        PackLoans y = Checks.loaded(PAIR);
        y.setReserve(0, 300);
        BOUNDS.same("as much", y.hindrance(0, 200), 0);
        BOUNDS.same("1 more", y.hindrance(0, 201), 3);
        y.setReserve(0, 499);
        BOUNDS.same("1 above", y.hindrance(0, 1), 0);
        y.setReserve(0, 500);
        BOUNDS.same("nothing above", y.hindrance(0, 1), 3);
        y.setReserve(0, 100000);
        BOUNDS.same("far below", y.hindrance(0, 1), 3);
        says("Promise 18", "4 there are 16 loans; 0 if it can be given");
        PackLoans z = Checks.loaded(PAIR);
        for (int loan = 0; loan < 16; loan++) {
            BOUNDS.same("behind " + loan + " loans", z.hindrance(0, 300), 0);
            z.lend(0, 1, 9);
            z.forgive(loan);
        }
        BOUNDS.same("behind 16 loans", z.hindrance(0, 300), 4);
        says("Promise 18", "1 the contract was broken");
        PackLoans b = Bounds.allStates();
        BOUNDS.same("broken", b.hindrance(1, 1), 1);
        BOUNDS.same("the other is not", b.hindrance(0, 1), 0);
        b.mend(1);
        b.charge(1, 9);
        BOUNDS.same("mended", b.hindrance(1, 1), 0);
    }

    private static void hindrancesInOrder() {
        says("Promise 18", "Returns the first that holds");
        PackLoans x = Checks.loaded(PAIR);
        for (int loan = 0; loan < 15; loan++) {
            x.lend(0, 1, 9);
            x.forgive(loan);
        }
        x.lend(0, 10, 1);
        x.run(1);
        x.drain(1, 1000);
        x.run(1);
        x.setReserve(0, 450);
        // The lender has 490; all four hold for 301 or more.
        BOUNDS.same("1 of 1, 2, 3 and 4", x.hindrance(0, 301), 1);
        BOUNDS.same("1 of 1 and 4", x.hindrance(0, 1), 1);
        x.mend(0);
        BOUNDS.same("2 of 2, 3 and 4", x.hindrance(0, 301), 2);
        BOUNDS.same("3 of 3 and 4", x.hindrance(0, 300), 3);
        BOUNDS.same("3 of 3 and 4", x.hindrance(0, 41), 3);
        BOUNDS.same("4", x.hindrance(0, 40), 4);
    }

    private static void cheapest() {
        noIndex("Promise 19", "pack", 2, (x, pack) -> x.cheapest(pack, 1));
        noPackOfNone((x, pack) -> x.cheapest(pack, 1));
        says("Promise 19", "`amount`: 1 to 100000");
        noArgument("Promise 19", "amount", 1, 100000, (x, amount) -> x.cheapest(1, amount));
        PackLoans large = Checks.loaded("packs 1 1;curve 9 9 9 9;pack 100000 100000 0;pack 9 0;cable 0 1 900 1;"
                + "contract 0 1 100000 0 0");
        BOUNDS.same("the largest amount", large.cheapest(1, 100000), 0);
        BOUNDS.same("the smallest amount", large.cheapest(1, 1), 0);
        says("Promise 19", "and what the cable would lose of the amount at once");
        PackLoans x = Checks.loaded("packs 10 10;curve 0 0 0 0;pack 100 90 0;pack 100 90 0;pack 100 90 0;pack 100 0;"
                + "cable 0 3 333 9;cable 1 3 99 9;cable 2 3 100 9;contract 0 3 90 0 0;contract 1 3 90 0 0;"
                + "contract 2 3 90 0 0");
        // 999 / 1000 is 0.
        BOUNDS.same("of 3", x.cheapest(3, 3), 0);
        BOUNDS.same("of 4", x.cheapest(3, 4), 1);
        x.forgive(x.lend(1, 1, 1));
        x.setReserve(0, 90);
        BOUNDS.same("990 and 1000", x.cheapest(3, 10), 1);
        x.setReserve(1, 90);
        BOUNDS.same("the last one", x.cheapest(3, 10), 2);
        says("Promise 19", "Returns the contract, of several the lowest one");
        PackLoans y = Checks.loaded("packs 10 10;curve 0 0 0 0;pack 100 90 0;pack 100 90 0;pack 100 0;cable 0 2 0 9;"
                + "cable 1 2 100 9" + ";contract 1 2 90 0 0;contract 0 2 90 0 0".repeat(2));
        BOUNDS.same("nothing is lost of 9", y.cheapest(2, 9), 0);
        BOUNDS.same("1 is lost of 10", y.cheapest(2, 10), 1);
        says("Promise 19", "NONE if no loan can be given");
        BOUNDS.same("a lender", y.cheapest(0, 1), PackLoans.NONE);
        BOUNDS.same("all that there is", y.cheapest(2, 90), 1);
        BOUNDS.same("1 more", y.cheapest(2, 91), PackLoans.NONE);
        PackLoans b = Bounds.allStates();
        b.charge(1, 100);
        BOUNDS.same("a broken contract", b.cheapest(0, 1), PackLoans.NONE);
        b.mend(1);
        BOUNDS.same("a mended contract", b.cheapest(0, 1), 1);
        BOUNDS.same("a pack without contracts", Checks.loaded("packs 1 1;pack 9 9").cheapest(0, 1), PackLoans.NONE);
    }

    private static void neediestAndRichest() {
        says("Promise 40", "NONE without packs");
        BOUNDS.same("none", new PackLoans().neediest(), PackLoans.NONE);
        says("Promise 41", "NONE without packs");
        BOUNDS.same("none", new PackLoans().richest(), PackLoans.NONE);
        PackLoans one = Checks.loaded("packs 1 1;pack 9 0");
        PackLoans all = Checks.loaded("packs 1 1" + ";pack 9 5".repeat(8));
        says("Promise 40", "Returns the pack, of several the lowest one");
        BOUNDS.same("the only one", one.neediest(), 0);
        BOUNDS.same("all the same", all.neediest(), 0);
        says("Promise 41", "Returns the pack, of several the lowest one");
        BOUNDS.same("the only one", one.richest(), 0);
        BOUNDS.same("all the same", all.richest(), 0);
        all.drain(6, 1);
        all.drain(7, 1);
        says("Promise 40", "Returns the pack with the least charge above its reserve");
        BOUNDS.same("1 less, twice", all.neediest(), 6);
        all.setReserve(7, 1);
        BOUNDS.same("the last one", all.neediest(), 7);
        says("Promise 41", "Returns the pack with the most charge above its reserve");
        all.charge(4, 1);
        all.charge(5, 1);
        BOUNDS.same("1 more, twice", all.richest(), 4);
        all.setReserve(4, 1);
        BOUNDS.same("the other of them", all.richest(), 5);
        says("Promise 40", "(the charge less the reserve, which can be negative)");
        one.setReserve(0, 100000);
        BOUNDS.same("the only one", one.neediest(), 0);
        BOUNDS.same("the only one is the richest too", one.richest(), 0);
        for (int pack = 0; pack < 8; pack++) {
            all.setReserve(pack, 99990 + pack);
        }
        // 4 and 5 have 6, 6 and 7 have 4 or less of charge.
        BOUNDS.same("the least of negative ones", all.neediest(), 7);
        BOUNDS.same("the most of negative ones", all.richest(), 0);
    }

    private static void debts() {
        noIndex("Promise 42", "pack", 2, PackLoans::owes);
        noPackOfNone(PackLoans::owes);
        noIndex("Promise 43", "pack", 2, PackLoans::isOwed);
        noPackOfNone(PackLoans::isOwed);
        PackLoans x = Bounds.allStates();
        says("Promise 42", "by all loans that are open");
        BOUNDS.same("of the states 1, 2 and 0", x.owes(1), 11 + 21);
        BOUNDS.same("of a broken loan", x.owes(0), 0);
        says("Promise 43", "by all loans that are open");
        BOUNDS.same("of the states 1, 2 and 0", x.isOwed(0), 11 + 21);
        BOUNDS.same("of a broken loan", x.isOwed(1), 0);
        PackLoans y = Checks.loaded(PAIR);
        y.lend(0, 10, 9);
        BOUNDS.same("before it is sent", y.owes(1), 0);
        y.run(1);
        BOUNDS.same("by the first loan", y.owes(1), 11);
        BOUNDS.same("by the first loan", y.isOwed(0), 11);
    }

    /** All is asked of as many packs, cables, trips, contracts and loans as there can be. */
    private static void fullest() {
        StringBuilder text = new StringBuilder("packs1 1" + ";curve0 0 0 0".repeat(4) + ";pack9 5".repeat(8));
        for (int other = 1; other < 8; other++) {
            text.append(";cable0 ").append(other).append(" 0 1");
        }
        for (int other = 2; other < 7; other++) {
            text.append(";cable7 ").append(other).append(" 0 1");
        }
        text.append(";sun7 23 23 1".repeat(5)).append(";contract0 1 9 0 9".repeat(7)).append(";contract7 6 9 0 9");
        PackLoans x = Checks.loaded(text.toString());
        for (int i = 0; i < 16; i++) {
            x.addTrip(7, i + 1, 6);
            x.lend(i < 7 ? i : 7, 1, 99);
        }
        x.run(4);
        says("Promise 9", "Returns what all suns of a pack give in an hour of the day");
        BOUNDS.same("the last hour of the last pack", x.gainAt(7, 23), 5);
        says("Promise 11", "8 what was sent for its loans");
        int[] sent = {1, 1, 1, 1, 0, 0, 0, 4};
        for (int contract = 0; contract < 8; contract++) {
            BOUNDS.same("of contract " + contract + " of 8", x.contract(contract, 8), sent[contract]);
            BOUNDS.same("got back of contract " + contract, x.contract(contract, 9), 0);
        }
        says("Promise 19", "NONE if no loan can be given");
        BOUNDS.same("all loans", x.count(6), 16);
        BOUNDS.same("of 8 contracts by 16 loans", x.cheapest(1, 1), PackLoans.NONE);
        says("Promise 42", "Returns what a pack owes by all loans that are open");
        BOUNDS.same("the last pack but one", x.owes(6), 8);
        BOUNDS.same("the last pack", x.owes(7), 0);
        says("Promise 43", "Returns what others owe a pack by all loans that are open");
        BOUNDS.same("the last pack", x.isOwed(7), 8);
        BOUNDS.same("the first pack", x.isOwed(0), 8);
        says("Promise 14", "4 what all packs hold now, 5 the points of wear of all packs");
        BOUNDS.same("of all 8", x.total(5), 8);
        BOUNDS.same("of all 8", x.total(4) + x.total(3), 40);
        says("Promise 7", "7 those that were missed");
        BOUNDS.same("of the last pack", x.pack(7, 7), 3);
        BOUNDS.same("all that it will miss", x.missIn(7), 1);
    }
}
