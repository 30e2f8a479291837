/** Promises 20 to 32, the actions: each sentence that names a boundary, on both sides of it. */
final class ActionsBounds {
    private static final Bounds BOUNDS = Bounds.ALL;
    private static final String LARGE = "packs 1 1;curve 0 0 0 0;pack 100000 100000 0;pack 100000 0 0;"
            + "cable 0 1 0 10000;contract 0 1 100000 0 0;contract 1 0 100000 99 0";

    private ActionsBounds() {
    }

    static void check() {
        lendArguments();
        lendAnswers();
        recalls();
        recallsRefused();
        givingBack();
        forgiving();
        mending();
        charging();
        draining();
        reserves();
        cables();
        tripArguments();
        tripsRefused();
        dropping();
        droppingOfAll();
        running();
        runningToClosed();
        runningToTheLastTime();
    }

    private static void says(String part, String words) {
        BOUNDS.says(part, words);
    }

    private static void noIndex(String part, String name, int number, Bounds.CallWith call) {
        says(part, "Throws `IndexOutOfBoundsException` if there is no such " + name);
        BOUNDS.index(Bounds::begun, name, number, call);
    }

    /** A call on a loan that is not open answers WRONG_STATE; on an open one it does not. */
    private static void wrongState(String part, Bounds.CallWith call) {
        says(part, "WRONG_STATE if it is not open");
        int[] states = {3, 5, 4, 1, 2, 0};
        for (int number = 0; number < states.length; number++) {
            int loan = number;
            if (states[loan] > 2) {
                BOUNDS.refused(Bounds::allStates, "of a loan in the state " + states[loan], x -> call.of(x, loan),
                        PackLoans.WRONG_STATE);
            } else {
                BOUNDS.yes("of a loan in the state " + states[loan], call.of(Bounds.allStates(), loan) >= 0);
            }
        }
    }

    private static PackLoans at(int time, String text) {
        PackLoans x = Checks.loaded(text);
        while (x.now() < time) {
            x.run(Math.min(1000, time - x.now()));
        }
        return x;
    }

    private static void lendArguments() {
        noIndex("Promise 20", "contract", 2, (x, contract) -> x.lend(contract, 1, 1));
        BOUNDS.index(PackLoans::new, "a contract of none", 0, (x, contract) -> x.lend(contract, 1, 1));
        says("Promise 20", "`amount`: 1 to 100000");
        says("Promise 20", "Throws `IllegalArgumentException` if amount or ticks is out of range");
        BOUNDS.range(Bounds::begun, "amount", 1, 100000, (x, amount) -> x.lend(0, amount, 1));
        BOUNDS.range(Bounds::begun, "amount when none can be given", 1, 100000, (x, amount) -> x.lend(1, amount, 1));
        says("Promise 20", "`ticks`: 1 to 999");
        BOUNDS.range(Bounds::begun, "ticks", 1, 999, (x, ticks) -> x.lend(0, 1, ticks));
        BOUNDS.range(Bounds::begun, "ticks when none can be given", 1, 999, (x, ticks) -> x.lend(0, 100000, ticks));
        PackLoans x = Checks.loaded(LARGE);
        BOUNDS.same("the most of both", x.lend(0, 100000, 999), 0);
        BOUNDS.same("amount", x.loan(0, 1), 100000);
        says("Promise 20", "which is to be given back from the time behind so many ticks on");
        BOUNDS.same("999 ticks", x.loan(0, 7), 999);
        x.run(999);
        BOUNDS.same("not before", x.loan(0, 6), 1);
        x.run(1);
        BOUNDS.same("from then on", x.loan(0, 6), 4);
        PackLoans y = Checks.loaded(LARGE);
        BOUNDS.same("the least of both", y.lend(0, 1, 1), 0);
        BOUNDS.same("1 tick", y.loan(0, 7), 1);
        y.run(1);
        BOUNDS.same("not before", y.loan(0, 6), 1);
        y.run(1);
        BOUNDS.same("from then on", y.loan(0, 6), 3);
    }

    private static PackLoans full() {
        PackLoans x = Checks.loaded("packs 1 1;pack 9 9;pack 9 0;cable 0 1 0 9;contract 0 1 9 0 0");
        for (int loan = 0; loan < 16; loan++) {
            BOUNDS.same("the loan", x.lend(0, 9, 9), loan);
            x.forgive(loan);
        }
        return x;
    }

    private static void lendAnswers() {
        says("Promise 20", "Returns the number of the loan; minus 10 minus the hindrance if it cannot be given");
        BOUNDS.refused(Bounds::allStates, "a broken contract", x -> x.lend(1, 1, 1), -11);
        BOUNDS.refused(Bounds::allStates, "1 more than LIMIT", x -> x.lend(0, 300 - 42 + 1, 1), -12);
        BOUNDS.same("LIMIT", Bounds.allStates().lend(0, 300 - 42, 1), 6);
        Bounds.Maker reserved = () -> {
            PackLoans x = Bounds.allStates();
            x.setReserve(0, x.pack(0, 2) - 7);
            return x;
        };
        BOUNDS.refused(reserved, "1 more than is above the reserve", x -> x.lend(0, 8, 1), -13);
        BOUNDS.same("all that is above the reserve", reserved.make().lend(0, 7, 1), 6);
        BOUNDS.same("all loans", full().count(6), 16);
        BOUNDS.same("the loan 16", full().lend(0, 9, 9), -14);
        BOUNDS.same("the loan 16, above LIMIT", full().lend(0, 10, 9), -12);
        PackLoans x = full();
        x.lend(0, 9, 9);
        BOUNDS.same("no loan 16", x.count(6), 16);
        BOUNDS.same("that was no action", x.undo(), 7);
        BOUNDS.same("forgive was the latest one", x.loan(15, 6), 0);
    }

    private static void recalls() {
        says("Promise 21", "it is given back from NOTICE ticks from now on, if that is not later than it was before");
        String text = "packs 1 1;pack 99 50;pack 99 50;cable 0 1 0 9;contract 0 1 99 7 0;contract 0 1 99 0 0;"
                + "contract 0 1 99 99 0";
        for (int[] row : new int[][] {{0, 9, 7}, {0, 8, 7}, {0, 7, 7}, {0, 6, 6}, {0, 1, 1}, {0, 999, 7}, {1, 1, 0},
            {1, 999, 0}, {2, 98, 98}, {2, 99, 99}, {2, 100, 99}}) {
            PackLoans x = at(20, text);
            x.lend(row[0], 5, row[1]);
            String name = "due in " + row[1] + " by contract " + row[0];
            BOUNDS.same(name, x.recall(0), 20 + row[2]);
            BOUNDS.same(name + ", loan(0, 7)", x.loan(0, 7), 20 + row[2]);
            BOUNDS.same(name + ", an action", x.undo(), 2);
            BOUNDS.same(name + ", before it", x.loan(0, 7), 20 + row[1]);
        }
        PackLoans x = at(9999, text);
        x.lend(2, 5, 999);
        BOUNDS.same("at the last time", x.recall(0), 9999 + 99);
        says("Promise 21", "Returns the time from which on it is given back");
        PackLoans y = Bounds.allStates();
        BOUNDS.same("while it is given back", y.recall(4), 6);
        BOUNDS.same("twice", y.recall(3), 9);
        BOUNDS.same("twice", y.recall(3), 9);
    }

    private static void recallsRefused() {
        wrongState("Promise 21", PackLoans::recall);
        noIndex("Promise 21", "loan", 2, PackLoans::recall);
        BOUNDS.index(() -> Checks.loaded(LARGE), "a loan of none", 0, PackLoans::recall);
    }

    private static void givingBack() {
        says("Promise 22", "from the next tick on, if it is not so already");
        PackLoans x = Checks.loaded(LARGE);
        x.lend(0, 50, 999);
        x.run(1);
        BOUNDS.same("owed", x.giveBack(0), 50);
        BOUNDS.same("still in the state 1", x.loan(0, 6), 1);
        x.run(1);
        BOUNDS.same("given back in the next tick", x.loan(0, 6), 3);
        says("Promise 22", "becomes the present one, or stays if it is earlier");
        PackLoans y = Bounds.allStates();
        BOUNDS.same("what is owed", y.giveBack(4), 21);
        BOUNDS.same("earlier", y.loan(4, 7), 6);
        BOUNDS.same("what is owed", y.giveBack(3), 11);
        BOUNDS.same("later", y.loan(3, 7), 7);
        BOUNDS.same("what is owed", y.giveBack(3), 11);
        BOUNDS.same("the present one", y.loan(3, 7), 7);
        BOUNDS.same("nothing is owed", y.giveBack(5), 0);
        BOUNDS.same("later", y.loan(5, 7), 7);
        wrongState("Promise 22", PackLoans::giveBack);
        noIndex("Promise 22", "loan", 2, PackLoans::giveBack);
        BOUNDS.index(() -> Checks.loaded(LARGE), "a loan of none", 0, PackLoans::giveBack);
    }

    private static void forgiving() {
        says("Promise 23", "Returns what was owed");
        PackLoans x = Bounds.allStates();
        BOUNDS.same("of the state 0", x.forgive(5), 0);
        BOUNDS.same("of the state 1", x.forgive(3), 11);
        BOUNDS.same("of the state 2", x.forgive(4), 21);
        BOUNDS.same("no loan is open", x.count(7), 0);
        BOUNDS.same("nothing is owed", x.owes(1), 0);
        wrongState("Promise 23", PackLoans::forgive);
        noIndex("Promise 23", "loan", 2, PackLoans::forgive);
        BOUNDS.index(() -> Checks.loaded(LARGE), "a loan of none", 0, PackLoans::forgive);
    }

    private static void mending() {
        says("Promise 24", "Returns 1 if it was broken, otherwise 0");
        PackLoans x = Bounds.allStates();
        BOUNDS.same("not broken", x.mend(0), 0);
        BOUNDS.same("broken", x.mend(1), 1);
        BOUNDS.same("mended", x.mend(1), 0);
        noIndex("Promise 24", "contract", 2, PackLoans::mend);
        BOUNDS.index(PackLoans::new, "a contract of none", 0, PackLoans::mend);
    }

    private static void charging() {
        says("Promise 25", "`amount`: 1 to 100000");
        says("Promise 25", "Throws `IllegalArgumentException` if amount is out of range");
        BOUNDS.range(Bounds::begun, "amount", 1, 100000, (x, amount) -> x.charge(1, amount));
        noIndex("Promise 25", "pack", 2, (x, pack) -> x.charge(pack, 1));
        BOUNDS.index(PackLoans::new, "a pack of none", 0, (x, pack) -> x.charge(pack, 1));
        says("Promise 25", "what it has no room for is lost");
        PackLoans x = Checks.loaded("packs 1 1;pack 100000 0;pack 2 1");
        BOUNDS.same("the most into an empty pack", x.charge(0, 100000), 100000);
        BOUNDS.same("nothing is lost", x.total(3), 0);
        BOUNDS.same("the least into a full pack", x.charge(0, 1), 100000);
        BOUNDS.same("it is lost", x.total(3), 1);
        BOUNDS.same("up to the room", x.charge(1, 1), 2);
        BOUNDS.same("nothing more is lost", x.total(3), 1);
        BOUNDS.same("the most into a full pack", x.charge(1, 100000), 2);
        BOUNDS.same("all is lost", x.total(3), 100001);
        BOUNDS.same("taken in", x.total(0), 1 + 200002);
    }

    private static void draining() {
        says("Promise 26", "`amount`: 1 to 100000");
        says("Promise 26", "Throws `IllegalArgumentException` if amount is out of range");
        BOUNDS.range(Bounds::begun, "amount", 1, 100000, (x, amount) -> x.drain(1, amount));
        noIndex("Promise 26", "pack", 2, (x, pack) -> x.drain(pack, 1));
        BOUNDS.index(PackLoans::new, "a pack of none", 0, (x, pack) -> x.drain(pack, 1));
        says("Promise 26", "as much of the amount as there is");
        PackLoans x = Checks.loaded("packs 1 1;pack 100000 100000;pack 99 50;pack 99 50;pack 99 50;pack 99 0");
        BOUNDS.same("the most of a full pack", x.drain(0, 100000), 100000);
        BOUNDS.same("1 less than there is", x.drain(1, 49), 49);
        BOUNDS.same("as much as there is", x.drain(2, 50), 50);
        BOUNDS.same("1 more than there is", x.drain(3, 51), 50);
        BOUNDS.same("1 of an empty pack", x.drain(4, 1), 0);
        BOUNDS.same("all of an empty pack", x.drain(4, 100000), 0);
        int[] left = {0, 1, 0, 0, 0};
        for (int pack = 0; pack < left.length; pack++) {
            BOUNDS.same("left of " + pack, x.pack(pack, 2), left[pack]);
        }
        BOUNDS.same("used", x.total(1), 100000 + 49 + 50 + 50);
        BOUNDS.same("actions, two of nothing", x.count(8), 6);
    }

    private static void reserves() {
        says("Promise 27", "`reserve`: 0 to 100000");
        says("Promise 27", "Throws `IllegalArgumentException` if reserve is out of range");
        BOUNDS.range(Bounds::begun, "reserve", 0, 100000, (x, reserve) -> x.setReserve(1, reserve));
        noIndex("Promise 27", "pack", 2, (x, pack) -> x.setReserve(pack, 1));
        BOUNDS.index(PackLoans::new, "a pack of none", 0, (x, pack) -> x.setReserve(pack, 1));
        says("Promise 27", "(0 at first): it sends no more of a loan than it has above it");
        PackLoans x = Checks.loaded(LARGE);
        BOUNDS.same("at first", x.pack(0, 5), 0);
        BOUNDS.same("the most", x.setReserve(0, 100000), 0);
        BOUNDS.same("nothing is above it", x.hindrance(0, 1), 3);
        BOUNDS.same("1 less", x.setReserve(0, 99999), 100000);
        x.lend(0, 1, 9);
        x.setReserve(0, 100000);
        x.run(1);
        BOUNDS.same("nothing is sent", x.loan(0, 2), 0);
        BOUNDS.same("back to 0", x.setReserve(0, 0), 100000);
        x.run(1);
        BOUNDS.same("it is sent", x.loan(0, 2), 1);
    }

    private static void cables() {
        says("Promise 28", "`loss`: 0 to 900");
        says("Promise 28", "Throws `IllegalArgumentException` if loss or rate is out of range");
        BOUNDS.range(Bounds::begun, "loss", 0, 900, (x, loss) -> x.setCable(0, 1, loss, 5));
        BOUNDS.range(Bounds::begun, "loss without a cable", 0, 900, (x, loss) -> x.setCable(1, 1, loss, 5));
        says("Promise 28", "`rate`: 1 to 10000");
        BOUNDS.range(Bounds::begun, "rate", 1, 10000, (x, rate) -> x.setCable(1, 0, 5, rate));
        BOUNDS.range(Bounds::begun, "rate without a cable", 1, 10000, (x, rate) -> x.setCable(0, 0, 5, rate));
        noIndex("Promise 28", "pack", 2, (x, pack) -> x.setCable(pack, 0, 5, 5));
        BOUNDS.index(Bounds::begun, "other", 2, (x, other) -> x.setCable(1, other, 5, 5));
        BOUNDS.index(PackLoans::new, "a pack of none", 0, (x, pack) -> x.setCable(pack, pack, 5, 5));
        says("Promise 28", "NONE, and nothing changes, if there is no cable between them");
        BOUNDS.refused(Bounds::begun, "of a pack and itself", x -> x.setCable(0, 0, 5, 5), PackLoans.NONE);
        Bounds.Maker three = () -> Checks.loaded("packs 1 1;pack 9 9;pack 9 9;pack 9 9;cable 0 1 10 20");
        BOUNDS.refused(three, "of 0 and 2", x -> x.setCable(0, 2, 5, 5), PackLoans.NONE);
        BOUNDS.refused(three, "of 2 and 1", x -> x.setCable(2, 1, 5, 5), PackLoans.NONE);
        says("Promise 28", "Returns the previous LOSS");
        PackLoans x = three.make();
        BOUNDS.same("the described one", x.setCable(1, 0, 900, 10000), 10);
        BOUNDS.same("the most", x.setCable(0, 1, 0, 1), 900);
        BOUNDS.same("the least", x.setCable(0, 1, 7, 7), 0);
        x.undo();
        BOUNDS.same("LOSS", x.cable(0, 1, 0), 0);
        BOUNDS.same("RATE", x.cable(0, 1, 1), 1);
    }

    private static void tripArguments() {
        says("Promise 29", "`time`: 0 to 9999");
        says("Promise 29", "Throws `IllegalArgumentException` if time or need is out of range");
        BOUNDS.range(Bounds::begun, "time", 0, 9999, (x, time) -> x.addTrip(1, time, 5));
        says("Promise 29", "`need`: 1 to 100000");
        BOUNDS.range(Bounds::begun, "need", 1, 100000, (x, need) -> x.addTrip(1, 5, need));
        BOUNDS.range(Bounds::begun, "need in the past", 1, 100000, (x, need) -> x.addTrip(1, 0, need));
        noIndex("Promise 29", "pack", 2, (x, pack) -> x.addTrip(pack, 5, 5));
        BOUNDS.index(PackLoans::new, "a pack of none", 0, (x, pack) -> x.addTrip(pack, 5, 5));
        PackLoans x = Checks.loaded(LARGE);
        BOUNDS.same("the least of both", x.addTrip(0, 0, 1), 0);
        BOUNDS.same("the most of both", x.addTrip(1, 9999, 100000), 1);
        BOUNDS.same("TIME", x.trip(1, 1), 9999);
        BOUNDS.same("NEED", x.trip(1, 2), 100000);
    }

    private static PackLoans trips(int number) {
        PackLoans x = Checks.loaded("packs 1 1;pack 9 9;trip 0 7 1;trip 0 0 1");
        x.run(5);
        for (int trip = 2; trip < number; trip++) {
            BOUNDS.same("the trip", x.addTrip(0, trip + 5, 1), trip);
        }
        return x;
    }

    private static void tripsRefused() {
        says("Promise 29", "FULL if there are 16");
        BOUNDS.same("behind 15", trips(15).addTrip(0, 9, 1), 15);
        BOUNDS.refused(() -> trips(16), "behind 16", x -> x.addTrip(0, 9, 1), PackLoans.FULL);
        BOUNDS.refused(() -> trips(16), "behind 16, in the past", x -> x.addTrip(0, 4, 1), PackLoans.FULL);
        PackLoans x = trips(16);
        x.dropTrip(15);
        BOUNDS.same("behind 16 and one that was dropped", x.addTrip(0, 9, 1), 15);
        says("Promise 29", "TOO_LATE if time is less than the present time");
        BOUNDS.refused(() -> trips(2), "1 less", y -> y.addTrip(0, 4, 1), PackLoans.TOO_LATE);
        BOUNDS.refused(() -> trips(2), "5 less", y -> y.addTrip(0, 0, 1), PackLoans.TOO_LATE);
        BOUNDS.same("the present time", trips(2).addTrip(0, 5, 1), 2);
        BOUNDS.same("1 more", trips(2).addTrip(0, 6, 1), 2);
        PackLoans last = at(9999, LARGE);
        BOUNDS.same("1 less than the last time", last.addTrip(0, 9998, 1), PackLoans.TOO_LATE);
        BOUNDS.same("the last time", last.addTrip(0, 9999, 1), 0);
    }

    private static void dropping() {
        says("Promise 30", "those behind it count one less");
        for (int dropped = 0; dropped < 4; dropped++) {
            PackLoans x = Checks.loaded("packs 1 1;pack 9 9;pack 9 9;trip 0 10 1;trip 1 11 2;trip 0 12 3;trip 1 13 4");
            BOUNDS.same("how many there are then", x.dropTrip(dropped), 3);
            for (int trip = 0; trip < 3; trip++) {
                int was = trip < dropped ? trip : trip + 1;
                BOUNDS.same("pack of " + trip + " without " + dropped, x.trip(trip, 0), was % 2);
                BOUNDS.same("TIME of " + trip + " without " + dropped, x.trip(trip, 1), 10 + was);
                BOUNDS.same("NEED of " + trip + " without " + dropped, x.trip(trip, 2), 1 + was);
            }
            BOUNDS.same("no trip 3", Bounds.outcome(x, y -> y.trip(3, 0)), Bounds.NO_INDEX);
        }
        PackLoans states = Checks.loaded("packs 1 1;pack 9 9;pack 9 0;trip 0 9 1;trip 0 0 1;trip 0 9 1;trip 1 0 1");
        states.run(1);
        states.dropTrip(0);
        states.dropTrip(1);
        BOUNDS.same("made", states.trip(0, 3), 1);
        BOUNDS.same("missed", states.trip(1, 3), 2);
        says("Promise 30", "WRONG_STATE if it is not to come");
        BOUNDS.refused(Bounds::begun, "one that was made", x -> x.dropTrip(0), PackLoans.WRONG_STATE);
        BOUNDS.refused(Bounds::begun, "one that was missed", x -> x.dropTrip(1), PackLoans.WRONG_STATE);
        BOUNDS.same("one that is to come", Bounds.begun().dropTrip(2), 2);
        noIndex("Promise 30", "trip", 3, PackLoans::dropTrip);
        BOUNDS.index(() -> Checks.loaded(LARGE), "a trip of none", 0, PackLoans::dropTrip);
    }

    private static void droppingOfAll() {
        says("Promise 29", "Adds a trip behind the others");
        PackLoans over = Checks.loaded("packs 1 1;pack 9 9;trip 0 9 1;trip 0 0 1");
        over.run(1);
        over.dropTrip(0);
        BOUNDS.same("where one that was made stood", over.addTrip(0, 5, 2), 1);
        BOUNDS.same("it is to come", over.trip(1, 3), 0);
        BOUNDS.same("the other was made", over.trip(0, 3), 1);
        says("Promise 30", "Returns how many trips there are then");
        for (int first : new int[] {0, 7, 15}) {
            PackLoans x = Checks.loaded("packs 1 1;pack 99 99" + ";trip 0 3 1".repeat(15) + ";trip 0 3 2");
            BOUNDS.same("of all 16", x.dropTrip(first), 15);
            BOUNDS.same("count(4)", x.count(4), 15);
            BOUNDS.same("the last one", x.trip(14, 2), first == 15 ? 1 : 2);
            BOUNDS.same("one more", x.addTrip(0, 4, 3), 15);
            x.run(5);
            BOUNDS.same("all were made", x.total(1), first == 15 ? 18 : 19);
        }
        PackLoans one = Checks.loaded("packs 1 1;pack 9 9;trip 0 3 1");
        BOUNDS.same("of one", one.dropTrip(0), 0);
        BOUNDS.same("of none", Bounds.outcome(one, x -> x.dropTrip(0)), Bounds.NO_INDEX);
        one.run(9);
        BOUNDS.same("it was not made", one.total(1), 0);
    }

    private static void running() {
        says("Promise 31", "`ticks`: 1 to 1000");
        says("Promise 31", "Throws `IllegalArgumentException` if ticks is out of range");
        BOUNDS.range(Bounds::begun, "ticks", 1, 1000, PackLoans::run);
        BOUNDS.range(PackLoans::new, "ticks of a new object", 1, 1000, PackLoans::run);
        BOUNDS.same("1", new PackLoans().run(1), 1);
        BOUNDS.same("1000", new PackLoans().run(1000), 1000);
        says("Promise 31", "those that would lead beyond the time 9999 are out of range");
        BOUNDS.same("1000 at 8999", at(8999, LARGE).run(1000), 9999);
        BOUNDS.range(() -> at(9000, LARGE), "ticks at 9000", 1, 999, PackLoans::run);
        BOUNDS.same("999 at 9000", at(9000, LARGE).run(999), 9999);
        BOUNDS.range(() -> at(9998, LARGE), "ticks at 9998", 1, 1, PackLoans::run);
        BOUNDS.same("1 at 9998", at(9998, LARGE).run(1), 9999);
        BOUNDS.refused(() -> at(9999, LARGE), "1 at 9999", x -> x.run(1), Bounds.ILLEGAL);
        BOUNDS.refused(() -> at(9999, LARGE), "0 at 9999", x -> x.run(0), Bounds.ILLEGAL);
        BOUNDS.refused(() -> at(9999, LARGE), "1000 at 9999", x -> x.run(1000), Bounds.ILLEGAL);
    }

    private static PackLoans lent(int time, int ticks) {
        PackLoans x = at(time, LARGE);
        x.lend(0, 10, ticks);
        return x;
    }

    private static void runningToClosed() {
        says("Promise 32", "`most`: 1 to 1000");
        says("Promise 32", "Throws `IllegalArgumentException` if most is out of range");
        BOUNDS.range(Bounds::begun, "most", 1, 1000, (x, most) -> x.runToClosed(0, most));
        BOUNDS.range(() -> lent(9999, 5), "most at 9999", 1, 1000, (x, most) -> x.runToClosed(0, most));
        noIndex("Promise 32", "loan", 2, (x, loan) -> x.runToClosed(loan, 5));
        BOUNDS.index(() -> Checks.loaded(LARGE), "a loan of none", 0, (x, loan) -> x.runToClosed(loan, 5));
        says("Promise 32", "Lets ticks pass until a loan is not open, at most some number of them");
        for (int most = 1; most <= 9; most++) {
            PackLoans x = lent(0, 5);
            x.runToClosed(0, most);
            BOUNDS.same("at most " + most, x.now(), Math.min(6, most));
        }
        says("Promise 32", "NONE if it is still open (the ticks have passed all the same)");
        PackLoans x = lent(0, 5);
        BOUNDS.same("1 too few", x.runToClosed(0, 5), PackLoans.NONE);
        BOUNDS.same("they have passed", x.now(), 5);
        BOUNDS.same("it was an action", x.count(8), 2);
        says("Promise 32", "Returns how many have passed");
        BOUNDS.same("just enough", lent(0, 5).runToClosed(0, 6), 6);
        BOUNDS.same("many", lent(0, 5).runToClosed(0, 1000), 6);
        BOUNDS.same("all of 1000", lent(0, 999).runToClosed(0, 1000), 1000);
        BOUNDS.same("all but one of 1000", lent(0, 999).runToClosed(0, 999), PackLoans.NONE);
        PackLoans y = Bounds.allStates();
        for (int loan = 0; loan < 3; loan++) {
            BOUNDS.same("not open, in the state " + y.loan(loan, 6), y.runToClosed(loan, 1), 0);
            BOUNDS.same("no tick has passed", y.now(), 7);
        }
        y.forgive(3);
        y.runToClosed(0, 9);
        BOUNDS.same("that was an action", y.undo(), 7);
        BOUNDS.same("only that was taken back", y.loan(3, 6), 5);
    }

    private static void runningToTheLastTime() {
        says("Promise 32", "and at most up to the time 9999");
        PackLoans x = lent(9000, 998);
        BOUNDS.same("closed by the last tick", x.runToClosed(0, 1000), 999);
        BOUNDS.same("now", x.now(), 9999);
        PackLoans y = lent(9000, 999);
        BOUNDS.same("1 tick too late", y.runToClosed(0, 1000), PackLoans.NONE);
        BOUNDS.same("now", y.now(), 9999);
        BOUNDS.same("at the last time", y.runToClosed(0, 1000), PackLoans.NONE);
        BOUNDS.same("at the last time", y.runToClosed(0, 1), PackLoans.NONE);
        BOUNDS.same("now", y.now(), 9999);
        BOUNDS.same("still open", y.count(7), 1);
        y.forgive(0);
        BOUNDS.same("not open at the last time", y.runToClosed(0, 1), 0);
    }
}
