/** Promises 33 to 39, the predictions: each sentence that names a boundary, on both sides of it. */
final class ForesightBounds {
    private static final Bounds BOUNDS = Bounds.ALL;
    private static final String FREE = "packs 1 1;curve 0 0 0 0;pack 1000 500 0;pack 1000 0 0;cable 0 1 0 1000;"
            + "contract 0 1 1000 0 0;contract 0 1 1000 0 99";

    private ForesightBounds() {
    }

    static void check() {
        charges();
        misses();
        missesThatDoNotCount();
        ends();
        statesAtTheEnd();
        lacks();
        lacksInOneTick();
        safety();
        safetyRefused();
        wear();
    }

    private static void says(String part, String words) {
        BOUNDS.says(part, words);
    }

    private static void noIndex(String part, String name, int number, Bounds.CallWith call) {
        says(part, "Throws `IndexOutOfBoundsException` if there is no such " + name);
        BOUNDS.index(Bounds::begun, name, number, call);
        BOUNDS.index(PackLoans::new, name + " of none", 0, call);
    }

    private static void noArgument(String part, String names, String name, int low, int high, Bounds.CallWith call) {
        says(part, "Throws `IllegalArgumentException` if " + names + " is out of range");
        BOUNDS.range(Bounds::begun, name, low, high, call);
    }

    private static void charges() {
        says("Promise 33", "`ticks`: 1 to 500");
        noArgument("Promise 33", "ticks", "ticks", 1, 500, (x, ticks) -> x.chargeIn(0, ticks));
        noIndex("Promise 33", "pack", 2, (x, pack) -> x.chargeIn(pack, 5));
        says("Promise 33", "Predicts the charge of a pack behind some ticks");
        PackLoans x = Checks.loaded("packs 1 1;pack 1000 0;pack 400 0;sun 0 0 23 1;sun 1 0 23 1");
        BOUNDS.same("behind 1", x.chargeIn(0, 1), 1);
        BOUNDS.same("behind 499", x.chargeIn(0, 499), 499);
        BOUNDS.same("behind 500", x.chargeIn(0, 500), 500);
        BOUNDS.same("just full", x.chargeIn(1, 400), 400);
        BOUNDS.same("full", x.chargeIn(1, 401), 400);
    }

    private static void misses() {
        noIndex("Promise 34", "pack", 2, PackLoans::missIn);
        says("Promise 34", "NONE if it is not within 500 ticks");
        for (int now : new int[] {0, 7}) {
            for (int[] row : new int[][] {{0, 1}, {1, 2}, {498, 499}, {499, 500}, {500, -1}, {501, -1}, {9000, -1}}) {
                PackLoans x = Checks.loaded("packs 1 1;pack 99 50;pack 99 50;trip 1 " + (now + row[0]) + " 51");
                if (now > 0) {
                    x.run(now);
                }
                BOUNDS.same("a trip behind " + row[0] + " ticks at " + now, x.missIn(1), row[1]);
                BOUNDS.same("of another pack", x.missIn(0), PackLoans.NONE);
            }
        }
        BOUNDS.same("no trips", Checks.loaded("packs 1 1;pack 99 50").missIn(0), PackLoans.NONE);
        says("Promise 34", "a trip of a pack will have been missed");
        PackLoans x = Checks.loaded("packs 1 1;pack 99 50;pack 99 50;pack 99 0;trip 0 3 50;trip 1 4 51;trip 1 3 51;"
                + "sun 2 5 5 1;trip 2 5 1;trip 2 6 1");
        BOUNDS.same("all that there is", x.missIn(0), PackLoans.NONE);
        BOUNDS.same("the earlier of two", x.missIn(1), 4);
        BOUNDS.same("one that is made and one that is missed", x.missIn(2), 7);
    }

    private static void missesThatDoNotCount() {
        says("Promise 34", "Predicts behind how many ticks a trip of a pack will have been missed");
        PackLoans x = Checks.loaded("packs 1 1;pack 99 50;trip 0 0 51;trip 0 9 51");
        BOUNDS.same("the first", x.missIn(0), 1);
        x.run(1);
        BOUNDS.same("the second", x.missIn(0), 9);
        x.run(9);
        BOUNDS.same("both were missed before", x.missIn(0), PackLoans.NONE);
        x.addTrip(0, 10, 51);
        BOUNDS.same("the third", x.missIn(0), 1);
        x.dropTrip(2);
        BOUNDS.same("it was dropped", x.missIn(0), PackLoans.NONE);
    }

    private static PackLoans given() {
        PackLoans x = Checks.loaded(FREE);
        x.lend(0, 10, 900);
        x.run(1);
        x.giveBack(0);
        return x;
    }

    private static void ends() {
        noIndex("Promise 35", "loan", 2, PackLoans::endIn);
        says("Promise 35", "Predicts behind how many ticks a loan will not be open");
        BOUNDS.same("in the next tick", given().endIn(0), 1);
        PackLoans broken = given();
        broken.drain(1, 10);
        BOUNDS.same("broken in the next tick", broken.endIn(0), 1);
        BOUNDS.same("as", broken.endAs(0), 4);
        says("Promise 35", "0 if it is not open now");
        for (int loan = 0; loan < 3; loan++) {
            BOUNDS.same("in the state " + Bounds.allStates().loan(loan, 6), Bounds.allStates().endIn(loan), 0);
        }
        says("Promise 35", "NONE if it is open behind 500 ticks");
        for (int[] row : new int[][] {{1, 2}, {498, 499}, {499, 500}, {500, -1}, {501, -1}, {999, -1}}) {
            PackLoans x = Checks.loaded(FREE);
            x.lend(0, 10, row[0]);
            BOUNDS.same("for " + row[0] + " ticks", x.endIn(0), row[1]);
            x.run(1);
            BOUNDS.same("for " + (row[0] - 1) + " ticks more", x.endIn(0), row[0] == 500 ? 500 : row[1] < 0 ? -1
                    : row[1] - 1);
        }
        PackLoans y = Checks.loaded(FREE);
        for (int[] row : new int[][] {{0, 400, 401}, {1, 400, 500}, {1, 401, -1}}) {
            y.lend(row[0], 10, row[1]);
        }
        y.run(1);
        y.drain(1, 1000);
        BOUNDS.same("broken by a GRACE of 0", y.endIn(0), 400);
        BOUNDS.same("broken by a GRACE of 99", y.endIn(1), 499);
        BOUNDS.same("1 tick later", y.endIn(2), 500);
        y.undo();
        y.undo();
        y.setReserve(0, 500);
        BOUNDS.same("closed without a sending", y.endIn(2), 402);
    }

    private static void statesAtTheEnd() {
        noIndex("Promise 36", "loan", 2, PackLoans::endAs);
        says("Promise 36", "when it is not open, or behind 500 ticks");
        int[] states = {3, 5, 4};
        for (int loan = 0; loan < 3; loan++) {
            BOUNDS.same("not open now", Bounds.allStates().endAs(loan), states[loan]);
        }
        PackLoans x = Checks.loaded(FREE);
        x.lend(0, 10, 499);
        x.lend(0, 10, 500);
        BOUNDS.same("closed in 500 ticks", x.endAs(0), 3);
        BOUNDS.same("open behind 500 ticks", x.endAs(1), 1);
        x.setReserve(0, 500);
        BOUNDS.same("nothing sent behind 500 ticks", x.endAs(1), 0);
        PackLoans y = Checks.loaded(FREE);
        y.lend(1, 10, 400);
        y.lend(1, 10, 401);
        y.lend(1, 10, 500);
        y.lend(1, 10, 499);
        y.lend(0, 10, 499);
        y.setCable(0, 1, 0, 50);
        y.addTrip(1, 1, 50);
        // The borrower has nothing then; GRACE is over at 499, 500, 599, 598 and 499.
        int[] due = {4, 2, 1, 2, 4};
        for (int loan = 0; loan < due.length; loan++) {
            BOUNDS.same("given back by an empty pack: " + loan, y.endAs(loan), due[loan]);
            BOUNDS.same("its ticks: " + loan, y.endIn(loan), due[loan] == 4 ? 500 : -1);
        }
    }

    private static void lacks() {
        noIndex("Promise 37", "trip", 3, PackLoans::lacks);
        says("Promise 37", "Returns NEED less the charge that its pack will have then, at least 0");
        PackLoans x = Checks.loaded("packs 1 1;pack 99 50;pack 99 0;trip 0 5 49;trip 0 5 50;trip 1 5 1;"
                + "trip 1 5 100000");
        BOUNDS.same("less than there is", x.lacks(0), 0);
        x.dropTrip(0);
        BOUNDS.same("all that there is", x.lacks(0), 0);
        BOUNDS.same("1 of an empty pack", x.lacks(1), 1);
        BOUNDS.same("the most of an empty pack", x.lacks(2), 100000);
        x.dropTrip(0);
        x.addTrip(0, 5, 51);
        BOUNDS.same("1 more than there is", x.lacks(2), 1);
        says("Promise 37", "NONE if it is not to come, or not within 500 ticks");
        BOUNDS.same("one that was made", Bounds.begun().lacks(0), PackLoans.NONE);
        BOUNDS.same("one that was missed", Bounds.begun().lacks(1), PackLoans.NONE);
        for (int now : new int[] {0, 7}) {
            for (int[] row : new int[][] {{0, 1}, {1, 1}, {498, 1}, {499, 1}, {500, -1}, {501, -1}, {9000, -1}}) {
                PackLoans y = Checks.loaded("packs 1 1;pack 99 50;pack 99 50;trip 1 " + (now + row[0]) + " 51");
                if (now > 0) {
                    y.run(now);
                }
                BOUNDS.same("a trip behind " + row[0] + " ticks at " + now, y.lacks(0), row[1]);
            }
        }
    }

    private static void lacksInOneTick() {
        says("Promise 37", "Predicts what will lack for a trip when it is to be made");
        PackLoans x = Checks.loaded("packs 1000 1;pack 99 40;pack 99 99;cable 0 1 0 99;contract 1 0 99 0 0;sun 0 2 2 9;"
                + "sun 0 3 3 1;trip 0 3 30;trip 0 3 50;trip 0 3 20;trip 0 3 1;trip 0 2 9");
        // 49 behind the sun at 2, 40 behind the trip at 2, 41 behind the sun at 3, 11 behind its first trip.
        int[] due = {0, 39, 9, 0, 0};
        for (int trip = 0; trip < due.length; trip++) {
            BOUNDS.same("trip " + trip, x.lacks(trip), due[trip]);
        }
        x.run(3);
        x.lend(0, 50, 9);
        BOUNDS.same("a loan of the same tick comes later", x.lacks(1), 39);
        PackLoans y = Checks.loaded("packs 1000 1;pack 99 40;pack 99 99;cable 0 1 0 99;contract 1 0 99 0 0;"
                + "trip 0 1 50");
        y.lend(0, 9, 99);
        BOUNDS.same("a loan of the tick before it", y.lacks(0), 1);
    }

    private static PackLoans lender() {
        return Checks.loaded("packs 1 1;curve 0 0 0 0;pack 100 90 0;pack 100 50 0;cable 0 1 0 50;contract 0 1 70 0 0;"
                + "trip 0 2 70;trip 1 499 51");
    }

    private static void safety() {
        says("Promise 38", "`amount`: 1 to 100000");
        noArgument("Promise 38", "amount or ticks", "amount", 1, 100000, (x, amount) -> x.isSafe(0, amount, 9) ? 1 : 0);
        says("Promise 38", "`ticks`: 1 to 500");
        BOUNDS.range(Bounds::begun, "ticks", 1, 500, (x, ticks) -> x.isSafe(0, 9, ticks) ? 1 : 0);
        BOUNDS.range(Bounds::begun, "ticks when none can be given", 1, 500,
                (x, ticks) -> x.isSafe(0, 9999, ticks) ? 1 : 0);
        noIndex("Promise 38", "contract", 2, (x, contract) -> x.isSafe(contract, 9, 9) ? 1 : 0);
        says("Promise 38", "whether the lender would miss no more trips in the next ticks than without it");
        BOUNDS.yes("as much as it does not need", lender().isSafe(0, 20, 9));
        BOUNDS.yes("1 more", !lender().isSafe(0, 21, 9));
        BOUNDS.yes("before the trip", lender().isSafe(0, 21, 2));
        BOUNDS.yes("up to the trip", !lender().isSafe(0, 21, 3));
        BOUNDS.yes("the fewest ticks", lender().isSafe(0, 21, 1));
        BOUNDS.yes("the most ticks", lender().isSafe(0, 20, 500));
        BOUNDS.yes("the most ticks, 1 more", !lender().isSafe(0, 21, 500));
        PackLoans x = lender();
        x.addTrip(0, 1, 91);
        BOUNDS.yes("one that is missed without it too", x.isSafe(0, 20, 9));
        BOUNDS.yes("two instead of one", !x.isSafe(0, 21, 9));
        x.dropTrip(0);
        BOUNDS.yes("one instead of one", x.isSafe(0, 70, 9));
        PackLoans large = Checks.loaded("packs 1 1;curve 0 0 0 0;pack 100000 100000 0;pack 100000 0 0;"
                + "cable 0 1 0 10000;contract 0 1 100000 0 0;trip 0 10 1;sun 0 10 10 1");
        BOUNDS.yes("the most", large.isSafe(0, 100000, 500));
        BOUNDS.yes("the least", large.isSafe(0, 1, 1));
        large.addTrip(0, 9, 10001);
        BOUNDS.yes("the most, with another trip", !large.isSafe(0, 100000, 10));
        BOUNDS.yes("the most, before that trip", large.isSafe(0, 100000, 9));
        PackLoans late = Checks.loaded("packs 1 1;curve 0 0 0 0;pack 100 90 0;pack 100 50 0;cable 0 1 0 50;"
                + "contract 0 1 70 0 0;trip 0 499 90;trip 0 500 90");
        BOUNDS.yes("a trip in the last tick", !late.isSafe(0, 1, 500));
        BOUNDS.yes("a trip behind the ticks", late.isSafe(0, 1, 499));
        BOUNDS.yes("trips of the borrower do not count", lender().isSafe(0, 9, 500));
    }

    private static void safetyRefused() {
        says("Promise 38", "false also if the loan cannot be given");
        BOUNDS.same("more than LIMIT", lender().isSafe(0, 71, 1) ? 1 : 0, 0);
        BOUNDS.same("LIMIT", lender().isSafe(0, 70, 1) ? 1 : 0, 1);
        PackLoans x = lender();
        x.setReserve(0, 80);
        BOUNDS.same("more than is above the reserve", x.isSafe(0, 11, 1) ? 1 : 0, 0);
        BOUNDS.same("as much as is above the reserve", x.isSafe(0, 10, 1) ? 1 : 0, 1);
        PackLoans broken = Bounds.allStates();
        broken.charge(1, 50);
        BOUNDS.same("a broken contract", broken.isSafe(1, 1, 1) ? 1 : 0, 0);
        broken.mend(1);
        BOUNDS.same("a mended contract", broken.isSafe(1, 1, 1) ? 1 : 0, 1);
        PackLoans full = lender();
        for (int loan = 0; loan < 16; loan++) {
            BOUNDS.same("behind " + loan + " loans", full.isSafe(0, 1, 1) ? 1 : 0, 1);
            full.forgive(full.lend(0, 1, 1));
        }
        BOUNDS.same("behind 16 loans", full.isSafe(0, 1, 1) ? 1 : 0, 0);
    }

    private static void wear() {
        says("Promise 39", "`ticks`: 1 to 500");
        noArgument("Promise 39", "ticks", "ticks", 1, 500, (x, ticks) -> x.wearIn(0, ticks));
        noIndex("Promise 39", "pack", 2, (x, pack) -> x.wearIn(pack, 5));
        says("Promise 39", "how many points of wear a pack will have more behind some ticks");
        PackLoans x = Checks.loaded("packs 10000 1;curve 1000 1000 1000 1000;pack 100000 100000 0;pack 9 9;trip 0 0 1;"
                + "trip 0 498 20;trip 0 499 300;trip 0 500 4000");
        x.drain(0, 5);
        BOUNDS.same("behind 1", x.wearIn(0, 1), 1000);
        BOUNDS.same("behind 498", x.wearIn(0, 498), 1000);
        BOUNDS.same("behind 499", x.wearIn(0, 499), 21000);
        BOUNDS.same("behind 500", x.wearIn(0, 500), 321000);
        BOUNDS.same("none", x.wearIn(1, 500), 0);
    }
}
