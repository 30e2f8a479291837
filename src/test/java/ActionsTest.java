/** Promises 13 and 25 to 32: the time, and the actions on packs, cables and trips and with time. */
public final class ActionsTest {
    private static final Checks CHECKS = new Checks();
    private static final String PAIR = "packs 10 100;pack 1000 500;pack 100 90;pack 50 0;cable 0 1 100 50;"
            + "contract 0 1 300 2 3";
    private static final int[] NO_AMOUNTS = {Integer.MIN_VALUE, -1, 0, 100001, Integer.MAX_VALUE};
    private static final int[] NO_PACKS = {Integer.MIN_VALUE, -1, 3, 8, Integer.MAX_VALUE};

    private ActionsTest() {
    }

    public static void main(String[] args) {
        charging();
        draining();
        settingReserves();
        settingCables();
        addingTrips();
        droppingTrips();
        makingTrips();
        running();
        runningToClosed();
        fullTables();
        CHECKS.end("ActionsTest");
    }

    private static void charging() {
        PackLoans x = Checks.loaded(PAIR);
        CHECKS.same("charge", x.charge(0, 1), 501);
        CHECKS.same("charge up to the room", x.charge(1, 10), 100);
        CHECKS.same("nothing lost", x.total(3), 0);
        CHECKS.same("charge above the room", x.charge(1, 100000), 100);
        CHECKS.same("lost", x.total(3), 100000);
        CHECKS.same("taken in", x.total(0), 590 + 1 + 10 + 100000);
        CHECKS.same("no wear", x.total(5), 0);
        CHECKS.same("actions", x.count(8), 3);
        for (int amount : NO_AMOUNTS) {
            CHECKS.illegal("charge " + amount, () -> x.charge(0, amount));
            CHECKS.noIndex("charge " + amount, () -> x.charge(3, amount));
        }
        for (int pack : NO_PACKS) {
            CHECKS.noIndex("charge of " + pack, () -> x.charge(pack, 1));
        }
        CHECKS.same("actions", x.count(8), 3);
    }

    private static void draining() {
        PackLoans x = Checks.loaded(PAIR);
        CHECKS.same("drain", x.drain(0, 100), 100);
        CHECKS.same("charge", x.pack(0, 2), 400);
        CHECKS.same("points", x.pack(0, 3), 100);
        CHECKS.same("used", x.total(1), 100);
        CHECKS.same("drain more than there is", x.drain(1, 100000), 90);
        CHECKS.same("charge", x.pack(1, 2), 0);
        CHECKS.same("used", x.total(1), 190);
        CHECKS.same("drain of an empty pack", x.drain(1, 5), 0);
        CHECKS.same("it is an action", x.count(8), 3);
        x.setReserve(0, 390);
        CHECKS.same("the reserve does not hold", x.drain(0, 400), 400);
        for (int amount : NO_AMOUNTS) {
            CHECKS.illegal("drain " + amount, () -> x.drain(0, amount));
            CHECKS.noIndex("drain " + amount, () -> x.drain(-1, amount));
        }
        for (int pack : NO_PACKS) {
            CHECKS.noIndex("drain of " + pack, () -> x.drain(pack, 1));
        }
        CHECKS.same("actions", x.count(8), 5);
    }

    private static void settingReserves() {
        PackLoans x = Checks.loaded(PAIR);
        CHECKS.same("setReserve", x.setReserve(1, 100000), 0);
        CHECKS.same("reserve", x.pack(1, 5), 100000);
        CHECKS.same("setReserve", x.setReserve(1, 0), 100000);
        CHECKS.same("setReserve of another", x.setReserve(0, 7), 0);
        CHECKS.same("reserve", x.pack(1, 5), 0);
        CHECKS.same("actions", x.count(8), 3);
        for (int reserve : new int[] {Integer.MIN_VALUE, -1, 100001, Integer.MAX_VALUE}) {
            CHECKS.illegal("setReserve " + reserve, () -> x.setReserve(0, reserve));
            CHECKS.noIndex("setReserve " + reserve, () -> x.setReserve(3, reserve));
        }
        for (int pack : NO_PACKS) {
            CHECKS.noIndex("setReserve of " + pack, () -> x.setReserve(pack, 1));
        }
    }

    private static void settingCables() {
        PackLoans x = Checks.loaded(PAIR);
        CHECKS.same("setCable", x.setCable(1, 0, 900, 10000), 100);
        CHECKS.same("LOSS", x.cable(0, 1, 0), 900);
        CHECKS.same("RATE", x.cable(0, 1, 1), 10000);
        CHECKS.same("setCable", x.setCable(0, 1, 0, 1), 900);
        CHECKS.same("LOSS", x.cable(0, 1, 0), 0);
        CHECKS.same("RATE", x.cable(0, 1, 1), 1);
        CHECKS.same("no cable", x.setCable(0, 2, 5, 5), PackLoans.NONE);
        CHECKS.same("no cable to itself", x.setCable(0, 0, 5, 5), PackLoans.NONE);
        CHECKS.same("that is no action", x.count(8), 2);
        x.lend(0, 10, 9);
        x.run(3);
        CHECKS.same("what was sent by the new RATE", x.loan(0, 2), 3);
        for (int loss : new int[] {Integer.MIN_VALUE, -1, 901, Integer.MAX_VALUE}) {
            CHECKS.illegal("LOSS " + loss, () -> x.setCable(0, 1, loss, 1));
            CHECKS.illegal("LOSS without a cable " + loss, () -> x.setCable(0, 2, loss, 1));
            CHECKS.noIndex("LOSS " + loss, () -> x.setCable(0, 3, loss, 1));
        }
        for (int rate : new int[] {Integer.MIN_VALUE, -1, 0, 10001, Integer.MAX_VALUE}) {
            CHECKS.illegal("RATE " + rate, () -> x.setCable(0, 1, 0, rate));
            CHECKS.noIndex("RATE " + rate, () -> x.setCable(-1, 1, 0, rate));
        }
        for (int pack : NO_PACKS) {
            CHECKS.noIndex("setCable from " + pack, () -> x.setCable(pack, 0, 1, 1));
            CHECKS.noIndex("setCable to " + pack, () -> x.setCable(0, pack, 1, 1));
        }
    }

    private static void addingTrips() {
        PackLoans x = Checks.loaded(PAIR + ";trip 0 5 7");
        x.run(3);
        CHECKS.same("addTrip in the past", x.addTrip(0, 2, 1), PackLoans.TOO_LATE);
        CHECKS.same("addTrip now", x.addTrip(1, 3, 100000), 1);
        CHECKS.same("addTrip at last", x.addTrip(2, 9999, 1), 2);
        CHECKS.same("pack", x.trip(1, 0), 1);
        CHECKS.same("TIME", x.trip(1, 1), 3);
        CHECKS.same("NEED", x.trip(1, 2), 100000);
        CHECKS.same("to come", x.trip(1, 3), 0);
        for (int need : NO_AMOUNTS) {
            CHECKS.illegal("NEED " + need, () -> x.addTrip(0, 5, need));
            CHECKS.illegal("NEED in the past " + need, () -> x.addTrip(0, 0, need));
            CHECKS.noIndex("NEED " + need, () -> x.addTrip(3, 5, need));
        }
        for (int time : new int[] {Integer.MIN_VALUE, -1, 10000, Integer.MAX_VALUE}) {
            CHECKS.illegal("TIME " + time, () -> x.addTrip(0, time, 1));
            CHECKS.noIndex("TIME " + time, () -> x.addTrip(-1, time, 1));
        }
        for (int pack : NO_PACKS) {
            CHECKS.noIndex("addTrip of " + pack, () -> x.addTrip(pack, 5, 1));
        }
        for (int trip = 3; trip < 16; trip++) {
            CHECKS.same("addTrip", x.addTrip(0, 9, 1), trip);
        }
        CHECKS.same("a trip too many", x.addTrip(0, 9, 1), PackLoans.FULL);
        CHECKS.same("a trip too many in the past", x.addTrip(0, 0, 1), PackLoans.FULL);
        CHECKS.illegal("a trip too many out of range", () -> x.addTrip(0, 9, 0));
        x.run(10);
        CHECKS.same("trips that are over count", x.addTrip(0, 20, 1), PackLoans.FULL);
        CHECKS.same("the trip of that time", x.trip(1, 3), 2);
    }

    private static void droppingTrips() {
        PackLoans x = Checks.loaded(PAIR + ";trip 0 0 7;trip 0 5 8;trip 1 6 9;trip 2 0 1;trip 1 7 3");
        x.run(1);
        CHECKS.same("a trip that was made", x.dropTrip(0), PackLoans.WRONG_STATE);
        CHECKS.same("a trip that was missed", x.dropTrip(3), PackLoans.WRONG_STATE);
        CHECKS.same("no actions", x.count(8), 1);
        CHECKS.same("dropTrip", x.dropTrip(1), 4);
        int[][] due = {{0, 0, 7, 1}, {1, 6, 9, 0}, {2, 0, 1, 2}, {1, 7, 3, 0}};
        for (int trip = 0; trip < due.length; trip++) {
            for (int what = 0; what <= 3; what++) {
                CHECKS.same("trip(" + trip + ", " + what + ")", x.trip(trip, what), due[trip][what]);
            }
        }
        CHECKS.same("dropTrip of the last one", x.dropTrip(3), 3);
        for (int trip : new int[] {Integer.MIN_VALUE, -1, 3, 16, Integer.MAX_VALUE}) {
            CHECKS.noIndex("dropTrip " + trip, () -> x.dropTrip(trip));
        }
        // Behind the last trip, one that was missed was shifted away.
        PackLoans y = Checks.loaded(PAIR + ";trip 0 5 8;trip 2 0 1");
        y.run(1);
        y.dropTrip(0);
        CHECKS.same("addTrip behind a dropped one", y.addTrip(0, 3, 4), 1);
        CHECKS.same("it is to come", y.trip(1, 3), 0);
        x.run(8);
        CHECKS.same("the dropped ones were not made", x.total(1), 7 + 9);
        CHECKS.same("made", x.pack(1, 6), 1);
    }

    private static void makingTrips() {
        PackLoans x = Checks.loaded(PAIR + ";trip 1 3 90;trip 1 3 1;trip 0 4 501;trip 2 30 8;sun 2 6 6 8");
        x.run(3);
        CHECKS.same("before its TIME", x.trip(0, 3), 0);
        x.run(1);
        CHECKS.same("NEED is all that there is", x.trip(0, 3), 1);
        CHECKS.same("nothing is left", x.trip(1, 3), 2);
        CHECKS.same("charge", x.pack(1, 2), 0);
        CHECKS.same("wear", x.pack(1, 3), 90);
        x.run(1);
        CHECKS.same("1 too little", x.trip(2, 3), 2);
        CHECKS.same("nothing is given", x.pack(0, 2), 500);
        x.run(26);
        CHECKS.same("the sun shines on the next day", x.trip(3, 3), 1);
        CHECKS.same("made", x.pack(2, 6), 1);
        CHECKS.same("missed", x.pack(1, 7), 1);
        CHECKS.same("used", x.total(1), 98);
        CHECKS.same("taken in", x.total(0), 590 + 16);
    }

    private static void running() {
        PackLoans x = Checks.loaded(PAIR);
        for (int ticks : new int[] {Integer.MIN_VALUE, -1, 0, 1001, Integer.MAX_VALUE}) {
            CHECKS.illegal("run " + ticks, () -> x.run(ticks));
        }
        CHECKS.same("run 1", x.run(1), 1);
        for (int i = 1; i <= 9; i++) {
            CHECKS.same("run 1000", x.run(1000), 1 + 1000 * i);
        }
        CHECKS.illegal("beyond 9999", () -> x.run(999));
        CHECKS.illegal("beyond 9999", () -> x.run(1000));
        CHECKS.same("now", x.now(), 9001);
        CHECKS.same("up to 9999", x.run(998), 9999);
        CHECKS.illegal("at 9999", () -> x.run(1));
        CHECKS.illegal("at 9999", () -> x.run(0));
        CHECKS.same("now", x.now(), 9999);
        CHECKS.same("undo", x.undo(), 7);
        CHECKS.same("now", x.now(), 9001);
    }

    /** As much of everything as there can be: 8 packs, 12 cables, 8 contracts, 16 trips, 16 loans. */
    private static void fullTables() {
        StringBuilder text = new StringBuilder("packs1 9;curve0 0 0 0;curve1 1 1 1;curve2 2 2 2;curve3 3 3 3");
        for (int pack = 0; pack < 8; pack++) {
            text.append(";pack99 50");
        }
        for (int other = 1; other < 8; other++) {
            text.append(";cable0 ").append(other).append(" 0 9");
        }
        for (int other = 2; other < 7; other++) {
            text.append(";cable1 ").append(other).append(" 0 9");
        }
        for (int other = 1; other < 8; other++) {
            text.append(";contract").append(other).append(" 0 9 9 9");
        }
        text.append(";contract0 1 9 9 9");
        PackLoans x = Checks.loaded(text.toString());
        for (int i = 0; i < 16; i++) {
            CHECKS.same("addTrip", x.addTrip(i % 8, i, 3), i);
            CHECKS.same("lend", x.lend(i % 8, 4, 1 + i), i);
        }
        int[] counts = {8, 4, 12, 0, 16, 8, 16, 16, 8};
        for (int what = 0; what < counts.length; what++) {
            CHECKS.same("full: count(" + what + ")", x.count(what), counts[what]);
        }
        CHECKS.same("what is to come", x.missIn(7), PackLoans.NONE);
        CHECKS.same("the last loan", x.endAs(15), 3);
        CHECKS.same("the last trip", x.lacks(15), 0);
        CHECKS.same("no more", x.cheapest(0, 1), PackLoans.NONE);
        CHECKS.same("owes", x.owes(0), 0);
        x.run(40);
        CHECKS.same("all are closed", x.count(7), 0);
        CHECKS.same("all trips were made", x.total(1), 48);
        // 4 points are 1 of interest.
        for (int i = 0; i < 16; i++) {
            CHECKS.same("got back of " + i, x.loan(i, 4), 5);
        }
        CHECKS.same("nothing else was lost", x.total(4) + x.total(3), 8 * 50 - 48);
        CHECKS.same("dropTrip", x.dropTrip(15), PackLoans.WRONG_STATE);
    }

    private static void runningToClosed() {
        PackLoans x = Checks.loaded(PAIR);
        CHECKS.noIndex("no loan", () -> x.runToClosed(0, 1));
        x.lend(0, 40, 5);
        for (int most : new int[] {Integer.MIN_VALUE, -1, 0, 1001, Integer.MAX_VALUE}) {
            CHECKS.illegal("most " + most, () -> x.runToClosed(0, most));
            CHECKS.noIndex("most " + most, () -> x.runToClosed(1, most));
        }
        CHECKS.same("too few ticks", x.runToClosed(0, 5), PackLoans.NONE);
        CHECKS.same("they have passed", x.now(), 5);
        CHECKS.same("just enough", x.runToClosed(0, 1), 1);
        CHECKS.same("closed", x.loan(0, 6), 3);
        CHECKS.same("not open", x.runToClosed(0, 1000), 0);
        CHECKS.same("now", x.now(), 6);
        CHECKS.same("all actions", x.count(8), 4);
        CHECKS.same("undo", x.undo(), 3);
        CHECKS.same("undo", x.undo(), 2);
        CHECKS.same("now", x.now(), 5);
        CHECKS.same("more than enough", x.runToClosed(0, 1000), 1);
        for (int i = 0; i < 8; i++) {
            x.run(1000);
        }
        CHECKS.same("run", x.run(994), 9000);
        x.lend(0, 40, 998);
        CHECKS.same("closed by the last tick", x.runToClosed(1, 1000), 999);
        x.undo();
        x.undo();
        x.run(2);
        x.lend(0, 40, 999);
        CHECKS.same("at most up to 9999", x.runToClosed(1, 1000), PackLoans.NONE);
        CHECKS.same("now", x.now(), 9999);
        CHECKS.same("at 9999", x.runToClosed(1, 1000), PackLoans.NONE);
        CHECKS.same("now", x.now(), 9999);
        x.undo();
        CHECKS.same("that was an action", x.now(), 9999);
    }
}
