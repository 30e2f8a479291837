/** Promises 33 to 39: the predictions. */
public final class ForesightTest {
    private static final Checks CHECKS = new Checks();
    private static final String PAIR = "packs 10 100;pack 1000 500;pack 1000 100;cable 0 1 100 50;"
            + "contract 0 1 300 2 3;contract 1 0 300 0 0";
    private static final int[] NO_TICKS = {Integer.MIN_VALUE, -1, 0, 501, Integer.MAX_VALUE};

    private ForesightTest() {
    }

    public static void main(String[] args) {
        charges();
        misses();
        ends();
        lacks();
        safety();
        wear();
        beyondTheLastTime();
        predictionsChangeNothing();
        CHECKS.end("ForesightTest");
    }

    private static void charges() {
        PackLoans x = Checks.loaded(PAIR + ";sun 1 0 1 5;trip 1 3 200");
        x.lend(0, 70, 6);
        int[] borrower = {150, 173, 173, 173, 173, 173, 123};
        int[] lender = {450, 430, 430, 430, 430, 430, 475};
        for (int ticks = 1; ticks <= borrower.length; ticks++) {
            CHECKS.same("charge of the borrower in " + ticks, x.chargeIn(1, ticks), borrower[ticks - 1]);
            CHECKS.same("charge of the lender in " + ticks, x.chargeIn(0, ticks), lender[ticks - 1]);
        }
        PackLoans y = Checks.loaded("packs 1 1;pack 100000 0;sun 0 0 23 1");
        CHECKS.same("in 500", y.chargeIn(0, 500), 500);
        for (int ticks : NO_TICKS) {
            CHECKS.illegal("chargeIn " + ticks, () -> y.chargeIn(0, ticks));
            CHECKS.noIndex("chargeIn " + ticks, () -> y.chargeIn(1, ticks));
        }
        CHECKS.noIndex("chargeIn of -1", () -> y.chargeIn(-1, 1));
    }

    private static void misses() {
        PackLoans x = Checks.loaded("packs 1 1;pack 100 50;pack 100 50;trip 0 0 51;trip 1 499 51;trip 0 7 50;"
                + "trip 0 9 1");
        CHECKS.same("in the next tick", x.missIn(0), 1);
        CHECKS.same("in 500 ticks", x.missIn(1), 500);
        x.run(1);
        // The trip at 7 uses all.
        CHECKS.same("one that was missed does not count", x.missIn(0), 9);
        CHECKS.same("in 499 ticks", x.missIn(1), 499);
        PackLoans y = Checks.loaded("packs 1 1;pack 100 50;trip 0 500 51");
        CHECKS.same("not within 500", y.missIn(0), PackLoans.NONE);
        y.run(1);
        CHECKS.same("within 500", y.missIn(0), 500);
        PackLoans z = Checks.loaded("packs 1 1;pack 100 50;pack 100 0;trip 0 3 50;trip 1 3 1");
        CHECKS.same("not missed", z.missIn(0), PackLoans.NONE);
        for (int pack : new int[] {-1, 2, Integer.MIN_VALUE, Integer.MAX_VALUE}) {
            CHECKS.noIndex("missIn of " + pack, () -> z.missIn(pack));
        }
    }

    private static void ends() {
        PackLoans x = Checks.loaded(PAIR);
        CHECKS.noIndex("no loan", () -> x.endIn(0));
        CHECKS.noIndex("no loan", () -> x.endAs(0));
        x.lend(0, 40, 499);
        x.lend(0, 40, 500);
        x.lend(1, 100, 4);
        x.lend(1, 1, 1);
        CHECKS.same("closed in 500 ticks", x.endIn(0), 500);
        CHECKS.same("closed", x.endAs(0), 3);
        CHECKS.same("open behind 500 ticks", x.endIn(1), PackLoans.NONE);
        CHECKS.same("its state then", x.endAs(1), 1);
        x.drain(0, 380);
        // Pack 1 sends 10, 50 and 40; pack 0 has 40 + 90 - 80 then, and the cable is shared with loan 0.
        CHECKS.same("closed by number", x.endAs(3), 3);
        x.forgive(3);
        CHECKS.same("not open", x.endIn(3), 0);
        CHECKS.same("forgiven", x.endAs(3), 5);
        PackLoans y = Checks.loaded(PAIR);
        y.lend(0, 40, 2);
        y.setReserve(0, 500);
        CHECKS.same("nothing is sent", y.endIn(0), 3);
        CHECKS.same("closed all the same", y.endAs(0), 3);
        y.setReserve(0, 0);
        y.run(1);
        y.drain(1, 1000);
        CHECKS.same("to be broken", y.endIn(0), 5);
        CHECKS.same("broken", y.endAs(0), 4);
        CHECKS.same("not yet", y.contract(0, 7), 0);
        for (int loan : new int[] {-1, 1, Integer.MIN_VALUE, Integer.MAX_VALUE}) {
            CHECKS.noIndex("endIn " + loan, () -> y.endIn(loan));
            CHECKS.noIndex("endAs " + loan, () -> y.endAs(loan));
        }
    }

    private static void lacks() {
        PackLoans x = Checks.loaded("packs 1000 1;pack 100 50;sun 0 3 3 10;trip 0 3 70;trip 0 3 20;trip 0 3 45;"
                + "trip 0 499 100;trip 0 500 100");
        CHECKS.same("with the sun", x.lacks(0), 10);
        CHECKS.same("can be made", x.lacks(1), 0);
        CHECKS.same("behind the trips before it", x.lacks(2), 5);
        CHECKS.same("within 500 ticks", x.lacks(3), 0);
        CHECKS.same("not within 500 ticks", x.lacks(4), PackLoans.NONE);
        x.run(3);
        CHECKS.same("in the next tick", x.lacks(2), 5);
        x.run(1);
        CHECKS.same("missed", x.lacks(0), PackLoans.NONE);
        CHECKS.same("made", x.lacks(1), PackLoans.NONE);
        CHECKS.same("within 500 ticks now", x.lacks(4), 100);
        for (int trip : new int[] {-1, 5, 16, Integer.MIN_VALUE, Integer.MAX_VALUE}) {
            CHECKS.noIndex("lacks " + trip, () -> x.lacks(trip));
        }
    }

    private static void safety() {
        PackLoans x = Checks.loaded("packs 100 100;pack 100 90;pack 100 0;cable 0 1 0 50;contract 0 1 70 0 0;"
                + "trip 0 2 70;trip 1 1 20");
        CHECKS.yes("1 is safe", x.isSafe(0, 1, 1));
        CHECKS.yes("20 is safe", x.isSafe(0, 20, 5));
        CHECKS.yes("21 is not", !x.isSafe(0, 21, 5));
        CHECKS.yes("21 is if the trip is not within the ticks", x.isSafe(0, 21, 2));
        CHECKS.yes("21 is not in 3 ticks", !x.isSafe(0, 21, 3));
        // Pack 1 gives 20 for its trip; what is given back at 1 is missed by it, not by the lender.
        CHECKS.yes("given back in time", x.isSafe(0, 19, 1));
        CHECKS.yes("more than LIMIT", !x.isSafe(0, 71, 1));
        CHECKS.yes("in 500 ticks", x.isSafe(0, 20, 500));
        x.addTrip(0, 3, 90);
        CHECKS.yes("a trip that is missed anyhow", x.isSafe(0, 20, 5));
        x.setReserve(0, 75);
        CHECKS.yes("more than is above the reserve", !x.isSafe(0, 16, 1));
        CHECKS.yes("what is above the reserve", x.isSafe(0, 15, 5));
        CHECKS.same("no loan was given", x.count(6), 0);
        for (int ticks : NO_TICKS) {
            CHECKS.illegal("isSafe for " + ticks, () -> x.isSafe(0, 1, ticks) ? 1 : 0);
            CHECKS.noIndex("isSafe for " + ticks, () -> x.isSafe(1, 1, ticks) ? 1 : 0);
        }
        for (int amount : new int[] {Integer.MIN_VALUE, -1, 0, 100001}) {
            CHECKS.illegal("isSafe of " + amount, () -> x.isSafe(0, amount, 1) ? 1 : 0);
            CHECKS.noIndex("isSafe of " + amount, () -> x.isSafe(-1, amount, 1) ? 1 : 0);
        }
    }

    private static void wear() {
        PackLoans x = Checks.loaded(PAIR + ";trip 0 2 33");
        x.drain(0, 100);
        x.lend(0, 70, 6);
        int[] due = {50, 70, 103, 103, 103, 103, 103};
        for (int ticks = 1; ticks <= due.length; ticks++) {
            CHECKS.same("wear of the lender in " + ticks, x.wearIn(0, ticks), due[ticks - 1]);
        }
        // 71 are owed: 79 are sent, 50 first.
        CHECKS.same("wear of the borrower", x.wearIn(1, 7), 50);
        CHECKS.same("wear of the borrower", x.wearIn(1, 500), 79);
        for (int ticks : NO_TICKS) {
            CHECKS.illegal("wearIn " + ticks, () -> x.wearIn(0, ticks));
            CHECKS.noIndex("wearIn " + ticks, () -> x.wearIn(2, ticks));
        }
        CHECKS.noIndex("wearIn of -1", () -> x.wearIn(-1, 1));
    }

    private static void beyondTheLastTime() {
        PackLoans x = Checks.loaded(PAIR + ";sun 1 16 16 5");
        x.drain(1, 100);
        for (int i = 0; i < 9; i++) {
            x.run(1000);
        }
        x.drain(1, 1000);
        x.run(980);
        x.drain(1, 1000);
        x.run(19);
        x.drain(1, 1000);
        x.lend(0, 45, 5);
        x.addTrip(1, 9999, 3);
        // The time 9999 is the hour 15; pack 1 gets 40, then 5.
        CHECKS.same("charge in 1", x.chargeIn(1, 1), 41);
        CHECKS.same("charge in 2", x.chargeIn(1, 2), 46);
        CHECKS.same("missed", x.missIn(1), 1);
        CHECKS.same("lacks", x.lacks(0), 3);
        CHECKS.same("ends", x.endIn(0), 9);
        CHECKS.same("as a broken one", x.endAs(0), 4);
        CHECKS.same("now", x.now(), 9999);
    }

    private static PackLoans lent() {
        PackLoans x = Checks.loaded(PAIR + ";sun 1 0 1 5;trip 1 3 200;trip 0 1 1");
        x.lend(0, 70, 6);
        x.run(1);
        return x;
    }

    private static void unchanged(String name, java.util.function.Consumer<PackLoans> call) {
        PackLoans x = lent();
        call.accept(x);
        CHECKS.yes(name + " changes nothing", Checks.digest(x).equals(Checks.digest(lent())));
        CHECKS.same("undo", x.undo(), 1);
        CHECKS.same("the latest action", x.now(), 0);
    }

    private static void predictionsChangeNothing() {
        unchanged("chargeIn", x -> x.chargeIn(1, 500));
        unchanged("missIn", x -> x.missIn(1));
        unchanged("endIn", x -> x.endIn(0));
        unchanged("endAs", x -> x.endAs(0));
        unchanged("lacks", x -> x.lacks(0));
        unchanged("isSafe", x -> CHECKS.yes("a loan that is safe", x.isSafe(0, 10, 500)));
        unchanged("wearIn", x -> x.wearIn(0, 500));
    }
}
