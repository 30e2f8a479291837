/** Promises 20 to 24, and what sections 2 to 4 say of loans. */
public final class LoansTest {
    private static final Checks CHECKS = new Checks();
    private static final String PAIR = "packs 10 100;pack 1000 500;pack 1000 100;cable 0 1 100 50;"
            + "contract 0 1 300 2 3;contract 1 0 50 0 0";

    private LoansTest() {
    }

    public static void main(String[] args) {
        lending();
        sharedCable();
        reserves();
        curves();
        rounding();
        largeNumbers();
        noRoom();
        graces();
        loansByNumbers();
        recalls();
        givingBack();
        forgiving();
        mending();
        CHECKS.end("LoansTest");
    }

    private static void loanIs(PackLoans x, int loan, int sent, int points, int gotBack, int owed, int state) {
        int[] due = {sent, points, gotBack, owed, state};
        for (int i = 0; i < due.length; i++) {
            CHECKS.same("at " + x.now() + ": loan(" + loan + ", " + (i + 2) + ")", x.loan(loan, i + 2), due[i]);
        }
    }

    private static void charges(PackLoans x, int... due) {
        for (int pack = 0; pack < due.length; pack++) {
            CHECKS.same("at " + x.now() + ": charge of " + pack, x.pack(pack, 2), due[pack]);
        }
    }

    private static void lending() {
        PackLoans x = Checks.loaded(PAIR);
        for (int amount : new int[] {Integer.MIN_VALUE, -1, 0, 100001, Integer.MAX_VALUE}) {
            CHECKS.illegal("lend " + amount, () -> x.lend(0, amount, 1));
            CHECKS.noIndex("lend " + amount, () -> x.lend(2, amount, 1));
        }
        for (int ticks : new int[] {Integer.MIN_VALUE, -1, 0, 1000, Integer.MAX_VALUE}) {
            CHECKS.illegal("lend for " + ticks, () -> x.lend(0, 1, ticks));
            CHECKS.illegal("lend for " + ticks + " what cannot be given", () -> x.lend(0, 100000, ticks));
            CHECKS.noIndex("lend for " + ticks, () -> x.lend(-1, 1, ticks));
        }
        CHECKS.same("lend above the limit", x.lend(0, 301, 1), -12);
        CHECKS.same("lend 100000", x.lend(0, 100000, 1), -12);
        x.setReserve(0, 201);
        CHECKS.same("lend below the reserve", x.lend(0, 300, 1), -13);
        CHECKS.same("lend", x.lend(0, 299, 999), 0);
        CHECKS.same("lend", x.lend(0, 1, 1), 1);
        CHECKS.same("due", x.loan(0, 7), 999);
        CHECKS.same("nothing is sent at once", x.pack(0, 2), 500);
        CHECKS.same("actions", x.count(8), 3);
        for (int i = 2; i < 16; i++) {
            CHECKS.same("forgive", x.forgive(i - 1), 0);
            CHECKS.same("lend", x.lend(0, 1, 1), i);
        }
        x.forgive(15);
        CHECKS.same("a loan too many", x.lend(0, 1, 1), -14);
        CHECKS.same("loans", x.count(6), 16);
    }

    private static void sharedCable() {
        PackLoans x = Checks.loaded(PAIR);
        x.lend(0, 70, 5);
        x.lend(1, 20, 5);
        x.run(1);
        loanIs(x, 0, 50, 50, 0, 51, 0);
        loanIs(x, 1, 0, 0, 0, 0, 0);
        charges(x, 450, 145);
        CHECKS.same("outstanding", x.contract(0, 5), 71);
        CHECKS.same("outstanding", x.contract(1, 5), 20);
        x.run(1);
        loanIs(x, 0, 70, 70, 0, 71, 1);
        loanIs(x, 1, 20, 20, 0, 21, 1);
        charges(x, 448, 143);
        CHECKS.same("both ways together", x.cable(0, 1, 2), 40);
        CHECKS.same("lost in the cable", x.cable(0, 1, 3), 9);
        x.run(3);
        charges(x, 448, 143);
        x.run(1);
        // Of 79 that are wanted 50 are sent; nothing is left for the other loan, whose GRACE is 0.
        loanIs(x, 0, 70, 70, 45, 26, 2);
        loanIs(x, 1, 20, 20, 0, 0, 4);
        CHECKS.same("the contract is broken", x.contract(1, 7), 1);
        CHECKS.same("the other one is not", x.contract(0, 7), 0);
        charges(x, 493, 93);
        CHECKS.same("to the end", x.runToClosed(0, 1000), 1);
        // 29 are sent, 2 are lost: 1 more than what is owed.
        loanIs(x, 0, 70, 70, 72, 0, 3);
        charges(x, 520, 64);
        CHECKS.same("wear of the lender", x.pack(0, 3), 70);
        CHECKS.same("wear of the borrower", x.pack(1, 3), 20 + 50 + 29);
        CHECKS.same("lost in cables", x.total(2), 16);
        CHECKS.same("a broken contract lends nothing", x.lend(1, 1, 1), -11);
    }

    private static void reserves() {
        PackLoans x = Checks.loaded(PAIR);
        x.setReserve(0, 480);
        CHECKS.same("more than is above the reserve", x.lend(0, 21, 3), -13);
        CHECKS.same("all that is above the reserve", x.lend(0, 20, 3), 0);
        x.setReserve(0, 490);
        x.run(1);
        loanIs(x, 0, 10, 10, 0, 11, 0);
        charges(x, 490, 109);
        x.setReserve(0, 100000);
        x.run(1);
        loanIs(x, 0, 10, 10, 0, 11, 0);
        CHECKS.same("outstanding", x.contract(0, 5), 21);
        x.setReserve(0, 0);
        x.setReserve(1, 100000);
        x.run(1);
        loanIs(x, 0, 20, 20, 0, 21, 1);
        x.run(1);
        // The reserve of the borrower does not hold for what it gives back: 24 are sent, 2 are lost.
        loanIs(x, 0, 20, 20, 22, 0, 3);

        PackLoans y = Checks.loaded(PAIR);
        y.lend(0, 20, 1);
        y.setReserve(0, 500);
        y.run(1);
        loanIs(y, 0, 0, 0, 0, 0, 0);
        y.setReserve(0, 0);
        y.run(1);
        // It is given back before it was sent: nothing is owed.
        loanIs(y, 0, 0, 0, 0, 0, 3);
        charges(y, 500, 100);
    }

    private static void curves() {
        PackLoans x = Checks.loaded("packs 10000 10;curve 1 2 3 4;curve 7 7 7 7;pack 100 60 0;pack 100 0 1;"
                + "cable 0 1 0 20;contract 0 1 100 0 0");
        CHECKS.same("interest at once", x.interest(0, 60), 18);
        x.lend(0, 60, 9);
        x.run(1);
        loanIs(x, 0, 20, 60, 0, 26, 0);
        x.run(1);
        loanIs(x, 0, 40, 100, 0, 50, 0);
        x.run(1);
        loanIs(x, 0, 60, 120, 0, 72, 1);
        CHECKS.same("wear of the lender", x.pack(0, 3), 120);
        x.run(7);
        loanIs(x, 0, 60, 120, 20, 0, 4);
        CHECKS.same("wear of the borrower", x.pack(1, 3), 140);
    }

    private static void rounding() {
        PackLoans x = Checks.loaded("packs 10000 10000;curve 0 0 0 0;pack 100 9 0;pack 100 9;cable 0 1 1 99;"
                + "contract 0 1 9 0 9");
        x.lend(0, 1, 1);
        x.run(1);
        loanIs(x, 0, 1, 0, 0, 1, 1);
        x.run(1);
        // 1 * 1000 / 999, rounded up, is 2; nothing of it is lost.
        loanIs(x, 0, 1, 0, 2, 0, 3);
        charges(x, 10, 8);
        x.setCable(0, 1, 900, 99);
        x.lend(0, 2, 1);
        x.run(1);
        // Of 2, 1 is lost; 20 are wanted.
        charges(x, 8, 9);
        x.charge(1, 10);
        x.run(1);
        // Of 19, 17 are lost.
        loanIs(x, 1, 2, 0, 2, 0, 3);
        charges(x, 10, 0);
    }

    private static void largeNumbers() {
        PackLoans x = Checks.loaded("packs 10000 1;curve 1000 1000 1000 1000;pack 100000 100000 0;pack 100000 0;"
                + "cable 0 1 0 10000;contract 0 1 100000 0 99;contract 0 1 100000 0 99");
        CHECKS.same("the largest interest", x.interest(0, 100000), 100000000);
        x.lend(0, 100000, 999);
        x.run(10);
        loanIs(x, 0, 100000, 100000000, 0, 100100000, 1);
        CHECKS.same("owes", x.owes(1), 100100000);
        CHECKS.same("isOwed", x.isOwed(0), 100100000);
        CHECKS.same("outstanding", x.contract(0, 5), 100100000);
        CHECKS.same("much more than LIMIT", x.hindrance(0, 1), 2);
        CHECKS.same("room", x.pack(0, 1), 90000);
        x.setCable(0, 1, 900, 10000);
        CHECKS.same("giveBack", x.giveBack(0), 100100000);
        x.run(1);
        loanIs(x, 0, 100000, 100000000, 1000, 100099000, 2);
        charges(x, 1000, 90000);
    }

    private static void noRoom() {
        PackLoans x = Checks.loaded("packs 100 1;pack 10 10;pack 100 0;cable 0 1 0 100;contract 0 1 10 0 9");
        x.lend(0, 5, 1);
        x.run(1);
        loanIs(x, 0, 5, 5, 0, 10, 1);
        x.charge(1, 5);
        x.charge(0, 5);
        charges(x, 10, 10);
        x.run(1);
        loanIs(x, 0, 5, 5, 10, 0, 3);
        charges(x, 10, 0);
        CHECKS.same("lost for room", x.total(3), 10);
        CHECKS.same("what lenders got back", x.contract(0, 9), 10);

        PackLoans y = Checks.loaded("packs 1 1;pack 10 9;pack 5 4;cable 0 1 0 100;contract 0 1 10 0 9");
        y.lend(0, 5, 9);
        y.run(1);
        // The lender has room for 5 then, the borrower for 5.
        loanIs(y, 0, 5, 5, 0, 10, 1);
        charges(y, 4, 5);
        CHECKS.same("lost for room", y.total(3), 4);
    }

    private static void graces() {
        PackLoans x = Checks.loaded(PAIR);
        x.lend(0, 40, 2);
        x.run(1);
        x.drain(1, 136);
        charges(x, 460, 0);
        x.run(1);
        loanIs(x, 0, 40, 40, 0, 41, 1);
        x.run(1);
        loanIs(x, 0, 40, 40, 0, 41, 2);
        x.run(1);
        x.charge(1, 10);
        x.run(1);
        loanIs(x, 0, 40, 40, 9, 32, 2);
        CHECKS.same("not broken before GRACE is over", x.contract(0, 7), 0);
        CHECKS.same("lend in GRACE", x.lend(0, 1, 99), 1);
        x.run(1);
        loanIs(x, 0, 40, 40, 9, 0, 4);
        CHECKS.same("broken", x.contract(0, 7), 1);
        CHECKS.same("open loans of the broken contract", x.contract(0, 6), 1);
        // The other loan was sent on.
        loanIs(x, 1, 1, 1, 0, 2, 1);
        CHECKS.same("outstanding", x.contract(0, 5), 2);

        PackLoans y = Checks.loaded(PAIR);
        y.lend(0, 40, 2);
        y.run(1);
        y.drain(1, 136);
        y.run(4);
        y.charge(1, 46);
        y.run(1);
        // 46 in the last tick of GRACE: 42 arrive.
        loanIs(y, 0, 40, 40, 42, 0, 3);
        CHECKS.same("not broken", y.contract(0, 7), 0);
    }

    private static void loansByNumbers() {
        // What loan 0 brings to pack 1 can be lent on in the same tick, not the other way round.
        PackLoans x = Checks.loaded("packs 100 100;pack 50 20;pack 50 20;pack 50 0;cable 0 1 0 50;cable 1 2 0 50;"
                + "contract 0 1 50 0 0;contract 1 2 50 0 0");
        x.lend(1, 20, 9);
        x.lend(0, 10, 9);
        x.drain(1, 15);
        x.run(1);
        charges(x, 10, 10, 5);
        PackLoans y = Checks.loaded("packs 100 100;pack 50 20;pack 50 20;pack 50 0;cable 0 1 0 50;cable 1 2 0 50;"
                + "contract 0 1 50 0 0;contract 1 2 50 0 0");
        y.lend(0, 10, 9);
        y.lend(1, 20, 9);
        y.drain(1, 15);
        y.run(1);
        charges(y, 10, 0, 15);
        // Suns come before trips, and trips before loans.
        PackLoans z = Checks.loaded("packs 100 100;pack 50 5;pack 50 0;cable 0 1 0 50;contract 0 1 50 0 0;"
                + "sun 0 0 0 4;trip 0 0 8;trip 0 0 2;trip 1 0 1");
        z.lend(0, 5, 9);
        z.run(1);
        CHECKS.same("trip 0", z.trip(0, 3), 1);
        CHECKS.same("trip 1", z.trip(1, 3), 2);
        CHECKS.same("trip 2", z.trip(2, 3), 2);
        charges(z, 0, 1);
    }

    private static void recalls() {
        PackLoans x = Checks.loaded(PAIR);
        x.lend(0, 10, 20);
        x.lend(1, 10, 2);
        x.run(1);
        CHECKS.same("recall", x.recall(0), 3);
        CHECKS.same("due", x.loan(0, 7), 3);
        CHECKS.same("state", x.loan(0, 6), 1);
        x.run(1);
        CHECKS.same("recall later than before", x.recall(0), 3);
        CHECKS.same("recall at the due time", x.recall(1), 2);
        CHECKS.same("actions", x.count(8), 7);
        x.run(2);
        CHECKS.same("closed", x.loan(0, 6), 3);
        CHECKS.same("recall of a closed loan", x.recall(0), PackLoans.WRONG_STATE);
        CHECKS.same("no action", x.count(8), 8);
        PackLoans y = Checks.loaded(PAIR);
        y.lend(1, 10, 20);
        y.run(3);
        CHECKS.same("recall with a NOTICE of 0", y.recall(0), 3);
        y.run(2);
        CHECKS.same("recall when it is given back", y.recall(0), PackLoans.WRONG_STATE);
        y.lend(0, 10, 20);
        y.forgive(1);
        CHECKS.same("recall of a forgiven loan", y.recall(1), PackLoans.WRONG_STATE);
        for (int loan : new int[] {-1, 2, 16, Integer.MIN_VALUE, Integer.MAX_VALUE}) {
            CHECKS.noIndex("recall " + loan, () -> y.recall(loan));
        }
    }

    private static void givingBack() {
        PackLoans x = Checks.loaded(PAIR);
        x.lend(0, 70, 20);
        x.run(1);
        CHECKS.same("giveBack in the state 0", x.giveBack(0), 51);
        CHECKS.same("due", x.loan(0, 7), 1);
        CHECKS.same("state", x.loan(0, 6), 0);
        CHECKS.same("outstanding until then", x.contract(0, 5), 71);
        x.run(1);
        loanIs(x, 0, 50, 50, 45, 6, 2);
        CHECKS.same("outstanding then", x.contract(0, 5), 6);
        CHECKS.same("giveBack again", x.giveBack(0), 6);
        CHECKS.same("due stays", x.loan(0, 7), 1);
        x.run(1);
        CHECKS.same("giveBack of a closed loan", x.giveBack(0), PackLoans.WRONG_STATE);
        for (int loan : new int[] {-1, 1, 16, Integer.MIN_VALUE}) {
            CHECKS.noIndex("giveBack " + loan, () -> x.giveBack(loan));
        }
    }

    private static void forgiving() {
        PackLoans x = Checks.loaded(PAIR);
        x.lend(0, 70, 20);
        x.run(1);
        CHECKS.same("forgive", x.forgive(0), 51);
        loanIs(x, 0, 50, 50, 0, 0, 5);
        CHECKS.same("outstanding", x.contract(0, 5), 0);
        x.run(30);
        loanIs(x, 0, 50, 50, 0, 0, 5);
        charges(x, 450, 145);
        CHECKS.same("forgive again", x.forgive(0), PackLoans.WRONG_STATE);
        x.lend(0, 10, 3);
        CHECKS.same("forgive what was not sent", x.forgive(1), 0);
        CHECKS.same("its state", x.loan(1, 6), 5);
        for (int loan : new int[] {-1, 2, 16, Integer.MAX_VALUE}) {
            CHECKS.noIndex("forgive " + loan, () -> x.forgive(loan));
        }
    }

    private static void mending() {
        PackLoans x = Checks.loaded(PAIR);
        CHECKS.same("mend what is whole", x.mend(1), 0);
        CHECKS.same("an action", x.count(8), 1);
        x.lend(1, 20, 1);
        x.run(1);
        x.drain(0, 1000);
        x.drain(1, 1000);
        x.run(1);
        loanIs(x, 0, 20, 20, 0, 0, 4);
        CHECKS.same("broken", x.contract(1, 7), 1);
        x.charge(1, 100);
        CHECKS.same("lend", x.lend(1, 1, 1), -11);
        CHECKS.same("mend", x.mend(1), 1);
        CHECKS.same("not broken", x.contract(1, 7), 0);
        CHECKS.same("the loan stays broken", x.loan(0, 6), 4);
        CHECKS.same("mend again", x.mend(1), 0);
        CHECKS.same("lend", x.lend(1, 1, 1), 1);
        for (int contract : new int[] {-1, 2, 8, Integer.MIN_VALUE}) {
            CHECKS.noIndex("mend " + contract, () -> x.mend(contract));
        }
    }
}
