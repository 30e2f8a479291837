/** The sentences of the terms that name no boundary: what each one tells, by plain cases. */
final class PlainTerms {
    private static final Bounds BOUNDS = Bounds.ALL;

    private PlainTerms() {
    }

    static void check() {
        allOfIt();
        calls();
        roundedDown();
        statements();
        charges();
        wear();
        loans();
        loanPoints();
        outstanding();
        suns();
        tripsAndReserves();
        givenBack();
        borrowersReserve();
        closedAndBroken();
        takenBack();
        constants();
    }

    private static void says(String part, String words) {
        BOUNDS.says(part, words);
    }

    /** Two packs; the loan 0 is given back, the loan 1 is broken. */
    private static void allOfIt() {
        says("What it is", "Power packs that lend charge to one another: packs that wear by what they give, with "
                + "curves by how full they are; cables that lose; suns that charge by hours; trips that need charge; "
                + "contracts, loans with interest in wear, recalls, loans that are given back or broken; and what "
                + "will be.");
        PackLoans x = Checks.loaded("packs 10 100;curve 1 2 3 4;pack 1000 500 0;pack 1000 100;cable 0 1 100 50;"
                + "sun 1 2 3 10;trip 1 1 30;contract 0 1 300 2 3");
        x.lend(0, 40, 50);
        BOUNDS.same("what will be", x.chargeIn(1, 4), 100 + 36 - 30 + 10 + 10);
        x.run(1);
        BOUNDS.same("lent", x.pack(0, 2), 460);
        BOUNDS.same("worn by the half that is full", x.pack(0, 3), 40 * 3);
        BOUNDS.same("lost in the cable", x.cable(0, 1, 3), 4);
        BOUNDS.same("owed with the interest", x.loan(0, 5), 40 + 2);
        x.run(1);
        BOUNDS.same("the trip is made", x.trip(0, 3), 1);
        BOUNDS.same("it needed charge", x.pack(1, 2), 100 + 36 - 30);
        BOUNDS.same("recalled", x.recall(0), 4);
        x.run(2);
        BOUNDS.same("charged by the sun", x.pack(1, 2), 100 + 36 - 30 + 20);
        x.run(1);
        BOUNDS.same("given back", x.loan(0, 6), 3);
        x.lend(0, 40, 1);
        x.run(1);
        x.drain(1, 1000);
        x.run(4);
        BOUNDS.same("broken", x.loan(1, 6), 4);
    }

    private static void calls() {
        says("What it is", "An object is used for at most 512 calls after it has been made; what later calls answer "
                + "is free.");
        PackLoans x = new PackLoans();
        int calls = 0;
        String text = "packs1 1;pack9 9";
        for (int i = 0; i < text.length(); i++) {
            BOUNDS.same("call " + ++calls, x.append(text.charAt(i)), calls);
        }
        BOUNDS.same("call " + ++calls, x.load(), 1);
        for (int trip = 0; trip < 15; trip++) {
            BOUNDS.same("call " + ++calls, x.addTrip(0, 1, 9), trip);
        }
        while (calls < 510) {
            BOUNDS.same("call " + ++calls, x.addTrip(0, 0, 1), 15);
            BOUNDS.same("call " + ++calls, x.dropTrip(15), 15);
        }
        BOUNDS.same("call " + ++calls, x.run(2), 2);
        BOUNDS.same("call " + ++calls, x.pack(0, 7), 14);
        BOUNDS.same("calls", calls, 512);
    }

    private static void roundedDown() {
        says("Terms", "All numbers are integers, if nothing else is told; divisions are rounded down.");
        PackLoans x = Checks.loaded("packs 10 1;pack 100 99;pack 100 0;cable 0 1 99 100;contract 0 1 100 0 0");
        x.lend(0, 20, 99);
        x.run(1);
        BOUNDS.same("20 * 99 / 1000 are lost", x.total(2), 1);
        x.undo();
        x.undo();
        x.drain(0, 19);
        BOUNDS.same("100 - 19 / 10 is the room", x.pack(0, 1), 99);
        x.drain(0, 31);
        BOUNDS.same("100 - 50 / 10 is the room", x.pack(0, 1), 95);
        BOUNDS.same("4 * 49 / 95 is the quarter", x.pack(0, 8), 2);
        x.drain(0, 2);
        BOUNDS.same("4 * 47 / 95 is the quarter", x.pack(0, 8), 1);
    }

    private static void statements() {
        says("Section 1", "A description is a list of one or more statements, separated by semicolons");
        StringBuilder text = new StringBuilder("packs 1 1");
        for (int packs = 0; packs <= 8; packs++) {
            BOUNDS.same("the packs of " + text, Checks.load(new PackLoans(), text.toString()), packs);
            BOUNDS.same("with a semicolon behind it", Checks.load(new PackLoans(), text + ";"),
                    -100 - text.length() - 1);
            text.append(packs % 2 == 0 ? "; " : " ;").append("pack 9 ").append(packs);
        }
    }

    private static void charges() {
        says("Section 2", "A pack has a charge and points of wear (0 at first");
        PackLoans x = Checks.loaded("packs 9 1;pack 9 5;pack 8 0;pack 100000 100000");
        int[] due = {5, 0, 100000};
        for (int pack = 0; pack < due.length; pack++) {
            BOUNDS.same("charge of " + pack, x.pack(pack, 2), due[pack]);
            BOUNDS.same("points of " + pack, x.pack(pack, 3), 0);
        }
    }

    private static void wear() {
        says("Section 2", "When a pack gives some charge (to a trip, a drain, a loan, or to give one back), its points "
                + "become greater by this charge times W of its curve for the quarter in which it was before");
        PackLoans x = Checks.loaded("packs 1000 1;curve 1 1 1 1;curve 3 5 7 11;pack 100 100 1;pack 100 100");
        int[] drained = {10, 20, 30, 20, 20};
        int[] due = {110, 330, 540, 640, 700};
        int sum = 0;
        for (int i = 0; i < drained.length; i++) {
            x.drain(0, drained[i]);
            x.drain(1, drained[i]);
            sum += drained[i];
            BOUNDS.same("points behind " + sum, x.pack(0, 3), due[i]);
            BOUNDS.same("points without a curve behind " + sum, x.pack(1, 3), sum);
        }
    }

    private static void loans() {
        says("Section 3", "By a contract LENDER can lend to BORROWER. A loan has an amount and a time from which on it "
                + "is given back: at first the time when it is given plus the ticks that were told");
        PackLoans x = Checks.loaded("packs 1 1;pack 100 50;pack 100 60;pack 100 70;cable 0 1 0 50;cable 1 2 0 50;"
                + "contract 2 1 90 0 0;contract 0 1 90 0 0");
        BOUNDS.same("by contract 0", x.lend(0, 7, 40), 0);
        x.run(1);
        BOUNDS.same("its LENDER", x.pack(2, 2), 63);
        BOUNDS.same("its BORROWER", x.pack(1, 2), 67);
        BOUNDS.same("by contract 1", x.lend(1, 5, 50), 1);
        x.run(1);
        BOUNDS.same("its LENDER", x.pack(0, 2), 45);
        BOUNDS.same("its BORROWER", x.pack(1, 2), 72);
        BOUNDS.same("no more of the first", x.pack(2, 2), 63);
        BOUNDS.same("amount 0", x.loan(0, 1), 7);
        BOUNDS.same("amount 1", x.loan(1, 1), 5);
        BOUNDS.same("time 0", x.loan(0, 7), 40);
        BOUNDS.same("time 1", x.loan(1, 7), 51);
    }

    private static void loanPoints() {
        says("Section 3", "Its points are those by which the lender wore by sending it (what it gave times W each "
                + "time");
        PackLoans x = Checks.loaded("packs 1000 7;curve 1 2 3 4;pack 100 100 0;pack 100 0;cable 0 1 0 10;"
                + "contract 0 1 100000 0 0");
        x.lend(0, 60, 99);
        int[] due = {40, 80, 120, 150, 180, 210};
        for (int tick = 0; tick < due.length; tick++) {
            x.run(1);
            BOUNDS.same("points of the loan behind " + (tick + 1), x.loan(0, 3), due[tick]);
            BOUNDS.same("points of the lender behind " + (tick + 1), x.pack(0, 3), due[tick]);
        }
        says("Section 3", "What is owed is what was sent of it, plus its interest, less what was got back");
        BOUNDS.same("60 and 210 / 7", x.loan(0, 5), 90);
        x.drain(0, 9);
        BOUNDS.same("points of the loan behind a drain", x.loan(0, 3), 210);
        PackLoans y = Checks.loaded("packs 1000 7;curve 1 2 3 4;pack 100 100 0;pack 100 0;cable 0 1 0 10;"
                + "contract 0 1 100000 0 9");
        y.lend(0, 60, 6);
        y.run(6);
        BOUNDS.same("before it is given back", y.loan(0, 5), 90);
        y.run(1);
        BOUNDS.same("less 10 in a tick", y.loan(0, 5), 80);
        y.run(2);
        BOUNDS.same("less 30 in three", y.loan(0, 5), 60);
    }

    private static void outstanding() {
        says("Section 3", "Outstanding by a contract are, of all its open loans, what is owed and, in the state 0, "
                + "what was not yet sent.");
        PackLoans x = Checks.loaded("packs 1000 10;pack 100 100;pack 100 0;cable 0 1 0 10;contract 0 1 100 0 0;"
                + "contract 0 1 100 0 0");
        x.lend(0, 30, 99);
        BOUNDS.same("nothing is sent", x.contract(0, 5), 30);
        x.run(1);
        BOUNDS.same("10 are sent, 1 is the interest", x.contract(0, 5), 31);
        x.lend(0, 5, 99);
        x.lend(1, 40, 99);
        BOUNDS.same("with a second loan", x.contract(0, 5), 36);
        BOUNDS.same("of the other contract", x.contract(1, 5), 40);
        x.run(2);
        BOUNDS.same("30 are sent, 3 are the interest", x.contract(0, 5), 38);
        BOUNDS.same("the state 1", x.loan(0, 6), 1);
        x.forgive(1);
        BOUNDS.same("without the second loan", x.contract(0, 5), 33);
    }

    private static void suns() {
        says("Section 4", "(1) By numbers of packs: each pack gets the sum of the GAINs of its suns");
        PackLoans x = Checks.loaded("packs 1 1;pack 99 1;pack 99 2;pack 99 3;sun 0 0 1 4;sun 2 0 0 5;sun 0 1 2 6;"
                + "sun 2 0 0 10");
        int[][] due = {{5, 2, 18}, {15, 2, 18}, {21, 2, 18}, {21, 2, 18}};
        for (int tick = 0; tick < due.length; tick++) {
            x.run(1);
            for (int pack = 0; pack < 3; pack++) {
                BOUNDS.same("pack " + pack + " behind tick " + tick, x.pack(pack, 2), due[tick][pack]);
            }
        }
    }

    private static void tripsAndReserves() {
        says("Section 4", "each trip with TIME t is made if its pack has NEED or more: it gives NEED.");
        PackLoans x = Checks.loaded("packs 1 1;pack 100 50;trip 0 0 50");
        x.setReserve(0, 40);
        x.run(1);
        BOUNDS.same("a reserve is not kept from trips", x.trip(0, 3), 1);
    }

    private static void givenBack() {
        says("Section 4", "A loan that is given back goes to the lender; its points grow no more by it.");
        PackLoans x = Checks.loaded("packs 1000 1000;curve 9 9 9 9;pack 100 100;pack 100 50 0;cable 0 1 0 50;"
                + "contract 0 1 100 0 0");
        x.lend(0, 20, 2);
        x.run(2);
        BOUNDS.same("the lender has less", x.pack(0, 2), 80);
        x.run(1);
        BOUNDS.same("the lender has it", x.pack(0, 2), 101 - 1);
        BOUNDS.same("the borrower has it no more", x.pack(1, 2), 50 + 20 - 21);
        BOUNDS.same("points of the loan", x.loan(0, 3), 20);
        BOUNDS.same("points of the lender", x.pack(0, 3), 20);
        BOUNDS.same("points of the borrower", x.pack(1, 3), 21 * 9);
    }

    private static void borrowersReserve() {
        says("Section 4", "otherwise the borrower sends owed * 1000 / (1000 - LOSS), rounded up, but at most its "
                + "charge");
        PackLoans x = Checks.loaded("packs 1 1;pack 100 50;pack 100 30;cable 0 1 0 50;contract 0 1 100 0 0");
        x.lend(0, 20, 1);
        x.run(1);
        x.setReserve(1, 100);
        x.run(1);
        BOUNDS.same("its reserve does not keep it from that", x.loan(0, 6), 3);
        says("Section 4", "and at most what the cable can still send in this tick");
        PackLoans y = Checks.loaded("packs 1000 1000;pack 100 50;pack 100 50;cable 0 1 0 30;contract 0 1 100 0 0;"
                + "contract 1 0 100 0 9");
        y.lend(1, 25, 1);
        y.run(1);
        y.lend(0, 20, 9);
        y.lend(0, 9, 9);
        y.run(1);
        BOUNDS.same("26 of the loan 0 go from pack 0", y.loan(0, 6), 3);
        BOUNDS.same("4 of the loan 1 do", y.loan(1, 2), 4);
        BOUNDS.same("nothing of the loan 2 does", y.loan(2, 2), 0);
        PackLoans z = Checks.loaded("packs 1000 1000;pack 100 50;pack 100 50;cable 0 1 0 30;contract 0 1 100 0 0;"
                + "contract 1 0 100 0 9");
        z.lend(0, 25, 9);
        z.setReserve(0, 100);
        z.lend(1, 20, 1);
        z.run(1);
        z.setReserve(0, 0);
        z.run(1);
        BOUNDS.same("25 of the loan 0 go from pack 0", z.loan(0, 2), 25);
        BOUNDS.same("5 of the loan 1 do", z.loan(1, 4), 5);
    }

    private static void closedAndBroken() {
        says("Section 4", "If nothing is owed then, the loan is closed");
        PackLoans x = Checks.loaded("packs 1000 2;pack 100 50;pack 100 3;cable 0 1 0 50;contract 0 1 100 0 9");
        x.lend(0, 10, 1);
        x.run(2);
        BOUNDS.same("13 of 15, more than the amount", x.loan(0, 4), 13);
        BOUNDS.same("the interest is owed too", x.loan(0, 5), 2);
        BOUNDS.same("it is not closed", x.loan(0, 6), 2);
        x.charge(1, 2);
        x.run(1);
        BOUNDS.same("it is closed", x.loan(0, 6), 3);
        says("Section 4", "it is broken, and so is its contract.");
        PackLoans y = Checks.loaded("packs 1 1;pack 99 90;pack 99 90;pack 99 9;cable 0 1 0 50;cable 0 2 0 50;"
                + "cable 1 2 0 50;contract 0 1 99 0 0;contract 0 2 99 0 0;contract 0 1 99 0 0;contract 1 0 99 0 0;"
                + "contract 2 1 99 0 0");
        y.lend(0, 9, 50);
        y.lend(1, 9, 50);
        y.lend(2, 9, 1);
        y.lend(2, 9, 50);
        y.run(1);
        y.drain(1, 99);
        y.run(1);
        int[] broken = {0, 0, 1, 0, 0};
        int[] states = {1, 1, 4, 1};
        for (int contract = 0; contract < broken.length; contract++) {
            BOUNDS.same("whether the contract " + contract + " is broken", y.contract(contract, 7), broken[contract]);
        }
        for (int loan = 0; loan < states.length; loan++) {
            BOUNDS.same("the state of the loan " + loan, y.loan(loan, 6), states[loan]);
        }
    }

    /** The call is an action: what it changed is as before when it is taken back. */
    private static void action(Bounds.Maker maker, String name, Bounds.Call call) {
        PackLoans x = maker.make();
        String before = Checks.digest(maker.make());
        BOUNDS.yes(name + " does not answer an error", Bounds.outcome(x, call) >= 0);
        BOUNDS.yes(name + " changes something", !Checks.digest(x).equals(before));
        BOUNDS.same("undo of " + name, x.undo(), maker.make().count(8));
        BOUNDS.yes("as before " + name, Checks.digest(x).equals(before));
    }

    private static PackLoans quiet() {
        PackLoans x = Checks.loaded("packs 10 10;pack 1000 800;pack 500 300;cable 0 1 100 50;trip 1 9 30;"
                + "contract 0 1 300 2 3");
        x.lend(0, 120, 9);
        return x;
    }

    private static PackLoans broken() {
        PackLoans x = Checks.loaded("packs 1 1;pack 9 9;pack 9 0;cable 0 1 0 9;contract 0 1 9 0 0");
        x.lend(0, 5, 1);
        x.run(1);
        x.drain(1, 9);
        x.run(1);
        return x;
    }

    private static void takenBack() {
        says("Section 5", "The methods that are called actions can be taken back: the latest 8");
        action(PlainTerms::quiet, "lend", x -> x.lend(0, 20, 9));
        action(PlainTerms::quiet, "recall", x -> x.recall(0));
        action(PlainTerms::quiet, "giveBack", x -> x.giveBack(0));
        action(PlainTerms::quiet, "forgive", x -> x.forgive(0));
        action(PlainTerms::broken, "mend", x -> x.mend(0));
        action(PlainTerms::quiet, "charge", x -> x.charge(0, 5));
        action(PlainTerms::quiet, "drain", x -> x.drain(0, 5));
        action(PlainTerms::quiet, "setReserve", x -> x.setReserve(0, 5));
        action(PlainTerms::quiet, "setCable", x -> x.setCable(0, 1, 5, 5));
        action(PlainTerms::quiet, "addTrip", x -> x.addTrip(0, 5, 5));
        action(PlainTerms::quiet, "dropTrip", x -> x.dropTrip(0));
        action(PlainTerms::quiet, "run", x -> x.run(5));
        action(PlainTerms::quiet, "runToClosed", x -> x.runToClosed(0, 50));
        says("Section 5", "exceptions come before errors, and of several errors the one that is named first is "
                + "returned.");
        PackLoans x = quiet();
        x.run(3);
        BOUNDS.same("the exception", Bounds.outcome(x, y -> y.addTrip(2, 1, 1)), Bounds.NO_INDEX);
        BOUNDS.same("the error", x.addTrip(1, 1, 1), PackLoans.TOO_LATE);
        for (int trip = 1; trip < 16; trip++) {
            x.addTrip(1, 9, 1);
        }
        BOUNDS.same("the first of two errors", x.addTrip(1, 1, 1), PackLoans.FULL);
    }

    private static void constants() {
        says("Section 5", "The constants: `NONE = -1`: There is no such thing.");
        int[] all = {PackLoans.NONE, PackLoans.FULL, PackLoans.WRONG_STATE, PackLoans.TOO_LATE};
        for (int i = 0; i < all.length; i++) {
            BOUNDS.same("constant " + i, all[i], -1 - i);
        }
        BOUNDS.same("there is no such cable", quiet().cable(1, 1, 0), PackLoans.NONE);
    }
}
