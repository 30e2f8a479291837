/** Promises 6 to 19 and 40 to 43: the questions that tell what is now. */
public final class NumbersTest {
    private static final Checks CHECKS = new Checks();
    private static final String THREE = "packs 10 100;curve 1 2 3 4;pack 1000 500 0;pack 101 100;pack 40 0;"
            + "cable 0 1 100 50;cable 2 1 0 7;sun 1 5 6 20;sun 1 6 8 3;trip 1 2 120;contract 0 1 300 2 3";

    private NumbersTest() {
    }

    public static void main(String[] args) {
        counts();
        packs();
        roomAndWear();
        cables();
        gains();
        trips();
        contractsAndLoans();
        totals();
        parts();
        interests();
        hindrances();
        cheapest();
        extremes();
        debts();
        CHECKS.end("NumbersTest");
    }

    private static void rows(String name, int[] due, java.util.function.IntUnaryOperator row) {
        for (int what = 0; what < due.length; what++) {
            CHECKS.same(name + " what " + what, row.applyAsInt(what), due[what]);
        }
        CHECKS.illegal(name + " what -1", () -> row.applyAsInt(-1));
        CHECKS.illegal(name + " what too large", () -> row.applyAsInt(due.length));
        CHECKS.illegal(name + " what least", () -> row.applyAsInt(Integer.MIN_VALUE));
        CHECKS.illegal(name + " what most", () -> row.applyAsInt(Integer.MAX_VALUE));
    }

    private static void counts() {
        PackLoans x = Checks.loaded(THREE);
        rows("count", new int[] {3, 1, 2, 2, 1, 1, 0, 0, 0}, x::count);
        x.lend(0, 10, 1);
        CHECKS.same("loan 0 is open", x.count(7), 1);
        x.lend(0, 10, 1);
        x.forgive(0);
        rows("count with loans", new int[] {3, 1, 2, 2, 1, 1, 2, 1, 3}, x::count);
    }

    private static void packs() {
        PackLoans x = Checks.loaded(THREE);
        rows("pack 0", new int[] {1000, 1000, 500, 0, 0, 0, 0, 0, 2}, what -> x.pack(0, what));
        rows("pack 1", new int[] {101, 101, 100, 0, -1, 0, 0, 0, 3}, what -> x.pack(1, what));
        rows("pack 2", new int[] {40, 40, 0, 0, -1, 0, 0, 0, 0}, what -> x.pack(2, what));
        x.addTrip(1, 1, 30);
        x.setReserve(1, 77);
        x.charge(2, 40);
        x.run(3);
        // Trip 1 takes 30 at the time 1; trip 0 needs 120 at the time 2, and is missed.
        rows("pack 1 then", new int[] {101, 98, 70, 30, -1, 77, 1, 1, 2}, what -> x.pack(1, what));
        CHECKS.same("the quarter of a full pack", x.pack(2, 8), 3);
        for (int pack : new int[] {-1, 3, 8, Integer.MIN_VALUE, Integer.MAX_VALUE}) {
            CHECKS.noIndex("pack(" + pack + ", 0)", () -> x.pack(pack, 0));
            CHECKS.noIndex("pack(" + pack + ", 9)", () -> x.pack(pack, 9));
        }
    }

    private static void roomAndWear() {
        PackLoans x = Checks.loaded("packs 10 1;pack 101 100");
        x.drain(0, 9);
        CHECKS.same("9 points fade nothing", x.pack(0, 1), 101);
        x.drain(0, 1);
        CHECKS.same("10 points fade 1", x.pack(0, 1), 100);
        x.drain(0, 90);
        CHECKS.same("room", x.pack(0, 1), 91);
        for (int i = 0; i < 8; i++) {
            x.charge(0, 100);
            x.drain(0, 100);
        }
        // 100, then by rooms: 91, 82, 74, 67, 60, 54, 51, 51 more.
        CHECKS.same("points", x.pack(0, 3), 630);
        CHECKS.same("half of CAPACITY, rounded up", x.pack(0, 1), 51);

        PackLoans y = Checks.loaded("packs 1 1;curve 0 0 10 1000;pack 1000 1000 0");
        CHECKS.same("drain 10", y.drain(0, 10), 10);
        CHECKS.same("points of 10 in the quarter 3", y.pack(0, 3), 10000);
        CHECKS.same("room then", y.pack(0, 1), 500);
        CHECKS.same("charge above the room is lost", y.pack(0, 2), 500);
        CHECKS.same("lost for room", y.total(3), 490);
        y.drain(0, 130);
        CHECKS.same("the quarter before counts", y.pack(0, 3), 140000);
        CHECKS.same("quarter of 370 in 500", y.pack(0, 8), 2);
        y.drain(0, 200);
        CHECKS.same("points in the quarter 2", y.pack(0, 3), 142000);
        CHECKS.same("quarter of 170 in 500", y.pack(0, 8), 1);
        y.drain(0, 100000);
        CHECKS.same("points in the quarter 1", y.pack(0, 3), 142000);

        PackLoans z = Checks.loaded("packs 1 1;curve 1000 1000 1000 1000;pack 100000 100000 0");
        z.drain(0, 100000);
        for (int i = 0; i < 17; i++) {
            z.charge(0, 100000);
            z.drain(0, 100000);
        }
        CHECKS.same("many points", z.pack(0, 3), 950000000);
        z.charge(0, 50000);
        z.drain(0, 49999);
        CHECKS.same("just below the most", z.pack(0, 3), 999999000);
        z.charge(0, 2);
        z.addTrip(0, 0, 3);
        CHECKS.same("wearIn up to the most", z.wearIn(0, 1), 1000);
        z.drain(0, 2);
        CHECKS.same("the most points", z.pack(0, 3), 1000000000);
        CHECKS.same("their total", z.total(5), 1000000000);
        CHECKS.same("room", z.pack(0, 1), 50000);
    }

    private static void cables() {
        PackLoans x = Checks.loaded(THREE);
        x.lend(0, 70, 50);
        rows("cable 0 1", new int[] {100, 50, 0, 0}, what -> x.cable(0, 1, what));
        x.run(1);
        rows("cable 1 0", new int[] {100, 50, 50, 5}, what -> x.cable(1, 0, what));
        x.run(1);
        rows("cable 0 1 then", new int[] {100, 50, 20, 7}, what -> x.cable(0, 1, what));
        x.run(1);
        rows("cable 0 1 at rest", new int[] {100, 50, 0, 7}, what -> x.cable(0, 1, what));
        rows("cable 2 1", new int[] {0, 7, 0, 0}, what -> x.cable(2, 1, what));
        rows("no cable", new int[] {-1, -1, -1, -1}, what -> x.cable(0, 2, what));
        rows("no cable to itself", new int[] {-1, -1, -1, -1}, what -> x.cable(1, 1, what));
        for (int pack : new int[] {-1, 3, Integer.MIN_VALUE, Integer.MAX_VALUE}) {
            CHECKS.noIndex("cable from " + pack, () -> x.cable(pack, 0, 0));
            CHECKS.noIndex("cable to " + pack, () -> x.cable(0, pack, 9));
        }
    }

    private static void gains() {
        PackLoans x = Checks.loaded(THREE);
        int[] due = new int[24];
        rows("gainAt(0)", due, hour -> x.gainAt(0, hour));
        due[5] = 20;
        due[6] = 23;
        due[7] = 3;
        due[8] = 3;
        rows("gainAt(1)", due, hour -> x.gainAt(1, hour));
        CHECKS.noIndex("gainAt(3, 0)", () -> x.gainAt(3, 0));
        CHECKS.noIndex("gainAt(-1, 24)", () -> x.gainAt(-1, 24));
        x.drain(1, 100);
        x.run(30);
        // The suns of the hours 5 to 8, and that of the hour 29 modulo 24.
        CHECKS.same("taken in", x.total(0), 600 + 20 + 23 + 3 + 3 + 20);
        CHECKS.same("charge", x.pack(1, 2), 69);
    }

    private static void trips() {
        PackLoans x = Checks.loaded(THREE + ";trip 0 4 17");
        rows("trip 0", new int[] {1, 2, 120, 0}, what -> x.trip(0, what));
        rows("trip 1", new int[] {0, 4, 17, 0}, what -> x.trip(1, what));
        x.run(4);
        CHECKS.same("trip 0 was missed", x.trip(0, 3), 2);
        CHECKS.same("trip 1 is to come", x.trip(1, 3), 0);
        x.run(1);
        CHECKS.same("trip 1 was made", x.trip(1, 3), 1);
        for (int trip : new int[] {-1, 2, 16, Integer.MAX_VALUE}) {
            CHECKS.noIndex("trip " + trip, () -> x.trip(trip, 0));
            CHECKS.noIndex("trip " + trip, () -> x.trip(trip, 4));
        }
    }

    private static void contractsAndLoans() {
        PackLoans x = Checks.loaded(THREE);
        CHECKS.noIndex("no loan", () -> x.loan(0, 0));
        x.lend(0, 70, 3);
        rows("contract", new int[] {0, 1, 300, 2, 3, 70, 1, 0, 0, 0}, what -> x.contract(0, what));
        rows("loan", new int[] {0, 70, 0, 0, 0, 0, 0, 3}, what -> x.loan(0, what));
        x.run(1);
        // 50 in the quarter 2 of the lender: 150 points, 2 of interest; 20 are to be sent.
        rows("contract then", new int[] {0, 1, 300, 2, 3, 72, 1, 0, 50, 0}, what -> x.contract(0, what));
        rows("loan then", new int[] {0, 70, 50, 150, 0, 52, 0, 3}, what -> x.loan(0, what));
        x.run(2);
        // 450 of 985 is the quarter 1: 20 more for 40 points.
        rows("loan sent", new int[] {0, 70, 70, 190, 0, 72, 1, 3}, what -> x.loan(0, what));
        x.run(1);
        // Of 80 that are wanted, 50 can be sent, and 45 arrive.
        rows("loan given back", new int[] {0, 70, 70, 190, 45, 27, 2, 3}, what -> x.loan(0, what));
        rows("contract", new int[] {0, 1, 300, 2, 3, 27, 1, 0, 70, 45}, what -> x.contract(0, what));
        x.run(1);
        // 27 * 1000 / 900 is 30, of which 27 arrive.
        rows("loan closed", new int[] {0, 70, 70, 190, 72, 0, 3, 3}, what -> x.loan(0, what));
        rows("contract", new int[] {0, 1, 300, 2, 3, 0, 0, 0, 70, 72}, what -> x.contract(0, what));
        for (int none : new int[] {-1, 1, 16, Integer.MIN_VALUE}) {
            CHECKS.noIndex("contract " + none, () -> x.contract(none, 0));
            CHECKS.noIndex("contract " + none, () -> x.contract(none, 10));
            CHECKS.noIndex("loan " + none, () -> x.loan(none, 0));
            CHECKS.noIndex("loan " + none, () -> x.loan(none, 8));
        }
    }

    private static void totals() {
        PackLoans x = Checks.loaded(THREE);
        x.lend(0, 70, 3);
        x.run(6);
        x.charge(2, 50);
        x.drain(2, 15);
        long[] due = {600 + 20 + 50, 15, 5 + 2 + 5 + 3, 0, 0, 190 + 80 + 15};
        // Pack 1 has room for 1 more when it gets 45 and then 18; pack 2 for 40 when it gets 50.
        due[3] = 44 + 18 + 10;
        due[4] = due[0] - due[1] - due[2] - due[3];
        for (int what = 0; what <= 5; what++) {
            CHECKS.same("total " + what, x.total(what), due[what]);
        }
        CHECKS.illegal("total(-1)", () -> x.total(-1));
        CHECKS.illegal("total(6)", () -> x.total(6));
        CHECKS.illegal("total most", () -> x.total(Integer.MAX_VALUE));
    }

    private static void parts() {
        PackLoans x = Checks.loaded("packs 1 1;pack 7 7;pack 3 0");
        CHECKS.same("nothing used", x.usedPart(), 0.0);
        x.drain(0, 3);
        CHECKS.same("3 of 7", x.usedPart(), 3.0 / 7.0);
        x.charge(1, 4);
        CHECKS.same("what had no room counts", x.usedPart(), 3.0 / 11.0);
        CHECKS.same("nothing taken in", new PackLoans().usedPart(), 0.0);
        CHECKS.same("nothing taken in", Checks.loaded("packs 1 1;pack 7 0").usedPart(), 0.0);
        // Pack 0 has 4 of 4: half of 7, rounded up.
        CHECKS.same("full", (double) x.fullness(0), 1.0);
        x.drain(0, 1);
        CHECKS.same("3 of 4", (double) x.fullness(0), 0.75);
        x.drain(1, 2);
        CHECKS.same("1 of 2", (double) x.fullness(1), 0.5);
        PackLoans z = Checks.loaded("packs 1 1;pack 2 2");
        z.drain(0, 1);
        CHECKS.same("a room of 1", z.pack(0, 1), 1);
        CHECKS.same("1 of 1", (double) z.fullness(0), 1.0);
        CHECKS.same("the quarter of 1 of 1", z.pack(0, 8), 3);
        z.drain(0, 1);
        CHECKS.same("0 of 1", (double) z.fullness(0), 0.0);
        CHECKS.same("the quarter of 0 of 1", z.pack(0, 8), 0);
        PackLoans y = Checks.loaded("packs 1 1;pack 7 3;pack 100000 1");
        CHECKS.same("3 of 7 is a float", (double) y.fullness(0), (double) (3.0f / 7.0f));
        CHECKS.same("1 of 100000 is a float", (double) y.fullness(1), (double) (1.0f / 100000.0f));
        for (int pack : new int[] {-1, 2, Integer.MIN_VALUE}) {
            CHECKS.noIndex("fullness", () -> (long) y.fullness(pack));
        }
    }

    private static void wrongAmounts(String name, java.util.function.IntBinaryOperator call, int none) {
        for (int amount : new int[] {Integer.MIN_VALUE, -1, 0, 100001, Integer.MAX_VALUE}) {
            CHECKS.illegal(name + " of " + amount, () -> call.applyAsInt(0, amount));
            CHECKS.noIndex(name + " of " + amount, () -> call.applyAsInt(none, amount));
        }
        CHECKS.noIndex(name + " of -1", () -> call.applyAsInt(-1, 1));
        CHECKS.noIndex(name + " of none", () -> call.applyAsInt(none, 1));
    }

    private static void interests() {
        PackLoans x = Checks.loaded(THREE);
        CHECKS.same("300 points", x.interest(0, 100), 3);
        CHECKS.same("303 points", x.interest(0, 101), 4);
        CHECKS.same("3 points", x.interest(0, 1), 1);
        CHECKS.same("300000 points", x.interest(0, 100000), 3000);
        x.charge(0, 250);
        CHECKS.same("in the quarter 3", x.interest(0, 100), 4);
        PackLoans y = Checks.loaded("packs 1 1;curve 0 1000 0 0;pack 100 0 0;pack 100 99;cable 1 0 0 1;"
                + "contract 0 1 1 0 0;contract 1 0 1 0 0");
        CHECKS.same("no points", y.interest(0, 100000), 0);
        CHECKS.same("no curve", y.interest(1, 99), 99);
        y.charge(0, 25);
        CHECKS.same("most points", y.interest(0, 100000), 100000000);
        wrongAmounts("interest", x::interest, 1);
    }

    private static void hindrances() {
        PackLoans x = Checks.loaded(THREE);
        CHECKS.same("as much as LIMIT", x.hindrance(0, 300), 0);
        CHECKS.same("more than LIMIT", x.hindrance(0, 301), 2);
        x.setReserve(0, 300);
        CHECKS.same("as much as is above the reserve", x.hindrance(0, 200), 0);
        CHECKS.same("more than is above the reserve", x.hindrance(0, 201), 3);
        CHECKS.same("more than LIMIT comes first", x.hindrance(0, 301), 2);
        x.setReserve(0, 100000);
        CHECKS.same("a reserve above the charge", x.hindrance(0, 1), 3);
        x.setReserve(0, 0);
        x.lend(0, 250, 9);
        CHECKS.same("what was not sent is outstanding", x.hindrance(0, 50), 0);
        CHECKS.same("what was not sent is outstanding", x.hindrance(0, 51), 2);
        x.run(1);
        CHECKS.same("so is interest", x.hindrance(0, 48), 0);
        CHECKS.same("so is interest", x.hindrance(0, 49), 2);
        x.forgive(0);
        CHECKS.same("nothing of a loan that is not open", x.hindrance(0, 300), 0);
        for (int i = 1; i < 16; i++) {
            x.lend(0, 1, 9);
        }
        CHECKS.same("16 loans", x.hindrance(0, 1), 4);
        CHECKS.same("16 loans come last", x.hindrance(0, 300), 2);
        PackLoans y = Checks.loaded(THREE);
        y.lend(0, 100, 1);
        y.drain(1, 100);
        y.run(2);
        y.drain(1, 1000);
        y.run(4);
        CHECKS.same("broken", y.contract(0, 7), 1);
        CHECKS.same("a broken contract comes first", y.hindrance(0, 100000), 1);
        wrongAmounts("hindrance", x::hindrance, 1);
    }

    private static void cheapest() {
        PackLoans x = Checks.loaded("packs 10 10;curve 5 5 5 5;pack 100 90 0;pack 100 90;pack 100 90;pack 100 0;"
                + "cable 0 3 0 9;cable 1 3 300 9;cable 2 3 299 9;contract 0 3 80 0 0;contract 1 3 60 0 0;"
                + "contract 2 3 40 0 0;contract 3 0 9 0 0");
        // Interest and loss: 5 + 0; 1 + 3; 1 + 2.
        CHECKS.same("of 10", x.cheapest(3, 10), 2);
        // 50: 25; 5 + 15; the limit of the last is 40.
        CHECKS.same("of 50", x.cheapest(3, 50), 1);
        CHECKS.same("of 70", x.cheapest(3, 70), 0);
        CHECKS.same("of 81", x.cheapest(3, 81), PackLoans.NONE);
        CHECKS.same("without a contract", x.cheapest(1, 1), PackLoans.NONE);
        CHECKS.same("from an empty lender", x.cheapest(0, 1), PackLoans.NONE);
        // 2: 1 + 0 each; the lowest one.
        CHECKS.same("of 2", x.cheapest(3, 2), 0);
        // 3: 2; 1; 1.
        CHECKS.same("of 3", x.cheapest(3, 3), 1);
        wrongAmounts("cheapest", x::cheapest, 4);
    }

    private static void extremes() {
        PackLoans x = new PackLoans();
        CHECKS.same("neediest without packs", x.neediest(), PackLoans.NONE);
        CHECKS.same("richest without packs", x.richest(), PackLoans.NONE);
        PackLoans y = Checks.loaded("packs 1 1;pack 100 50;pack 100 20;pack 100 50;pack 100 20");
        CHECKS.same("neediest of several", y.neediest(), 1);
        CHECKS.same("richest of several", y.richest(), 0);
        y.setReserve(0, 1);
        CHECKS.same("richest by reserve", y.richest(), 2);
        y.setReserve(3, 21);
        CHECKS.same("neediest below zero", y.neediest(), 3);
        y.setReserve(0, 100);
        CHECKS.same("neediest is the first", y.neediest(), 0);
        y.setReserve(0, 1);
        y.setReserve(2, 100000);
        CHECKS.same("neediest far below zero", y.neediest(), 2);
        y.setReserve(0, 51);
        y.setReserve(1, 22);
        CHECKS.same("richest below zero", y.richest(), 0);
    }

    private static void debts() {
        PackLoans x = Checks.loaded("packs 10 10;pack 100 90;pack 100 90;pack 100 0;cable 0 1 0 50;cable 1 2 0 50;"
                + "cable 0 2 0 50;contract 0 2 80 0 9;contract 1 2 60 0 9;contract 0 1 60 0 9");
        x.lend(0, 20, 9);
        x.lend(1, 30, 9);
        x.lend(2, 11, 9);
        CHECKS.same("nothing was sent", x.owes(2), 0);
        x.run(1);
        CHECKS.same("owes of 2", x.owes(2), 22 + 33);
        CHECKS.same("owes of 1", x.owes(1), 13);
        CHECKS.same("owes of 0", x.owes(0), 0);
        CHECKS.same("isOwed of 0", x.isOwed(0), 22 + 13);
        CHECKS.same("isOwed of 1", x.isOwed(1), 33);
        CHECKS.same("isOwed of 2", x.isOwed(2), 0);
        x.forgive(0);
        CHECKS.same("owes of 2 less what was forgiven", x.owes(2), 33);
        CHECKS.same("isOwed of 0 less what was forgiven", x.isOwed(0), 13);
        for (int pack : new int[] {-1, 3, Integer.MIN_VALUE, Integer.MAX_VALUE}) {
            CHECKS.noIndex("owes", () -> x.owes(pack));
            CHECKS.noIndex("isOwed", () -> x.isOwed(pack));
        }
    }
}
