/** The sentences of the promises that name no boundary: what each one tells, of packs that differ in all numbers. */
final class PlainPromises {
    private static final Bounds BOUNDS = Bounds.ALL;
    private static final String PACKS = "packs 10 100;curve 1 2 3 4;curve 5 6 7 8;pack 1000 800 0;pack 500 100 1;"
            + "pack 300 30;cable 0 1 100 50;cable 1 2 200 30;sun 0 5 6 10;sun 1 0 23 3;trip 0 1 100;trip 1 2 400;"
            + "contract 0 1 300 2 3;contract 1 2 60 1 0";

    private PlainPromises() {
    }

    static void check() {
        newObject();
        objectsApart();
        buffer();
        loading();
        numbersOfPacks();
        numbersOfCables();
        numbersOfTrips();
        numbersOfContracts();
        numbersOfLoans();
        totals();
        beforeALoan();
        lending();
        returning();
        charging();
        settings();
        trips();
        running();
        foreseen();
        foreseenLoans();
        debts();
        undoing();
        saving();
    }

    private static void says(String part, String words) {
        BOUNDS.says(part, words);
    }

    private static PackLoans begun() {
        return Checks.loaded(PACKS);
    }

    /** 50 of the loan 0 and all 20 of the loan 1 are sent; the time is 1. */
    private static PackLoans lent() {
        PackLoans x = begun();
        x.lend(0, 120, 9);
        x.lend(1, 20, 5);
        x.run(1);
        return x;
    }

    private static void row(String name, Bounds.CallWith call, PackLoans x, int... due) {
        for (int i = 0; i < due.length; i++) {
            BOUNDS.same(name + " " + i, call.of(x, i), due[i]);
        }
    }

    private static void newObject() {
        says("Promise 1", "Creates packs as told in section 1, with an empty input buffer and no snapshots");
        PackLoans x = new PackLoans();
        row("count", PackLoans::count, x, 0, 0, 0, 0, 0, 0, 0, 0, 0);
        row("total", (y, what) -> y.total(what), x, 0, 0, 0, 0, 0, 0);
        BOUNDS.same("append", x.append(0), 0);
        BOUNDS.same("a snapshot", x.restoreSnapshot(0), PackLoans.NONE);
    }

    private static void told(StringBuilder all, PackLoans x, int step) {
        switch (step) {
            case 0: Checks.append(x, "packs 10 10;pack 100 "); break;
            case 1: Checks.append(x, "80;pack 90 50;cable 0 1 100 9;contract 0 1 60 1 1;trip 1 5 70"); break;
            case 2: all.append(x.load()).append(x.loadError()); break;
            case 3: all.append(x.saveSnapshot(0)); break;
            case 4: all.append(x.lend(0, 20, 3)); break;
            case 5: all.append(x.chargeIn(1, 4)); break;
            case 6: all.append(x.run(4)); break;
            case 7: all.append(x.drain(0, 7)); break;
            case 8: all.append(x.saveSnapshot(1)); break;
            case 9: all.append(x.undo()); break;
            case 10: all.append(Checks.digest(x)); break;
            case 11: all.append(Checks.load(x, "pack")).append(x.loadError()); break;
            case 12: all.append(x.restoreSnapshot(0)).append(x.pack(1, 2)).append(x.loadStatement()); break;
            default: all.append(x.restoreSnapshot(1)).append(x.pack(1, 2)).append(x.undo()); break;
        }
    }

    /** The calls of one object do not change what another one answers. */
    private static void objectsApart() {
        StringBuilder due = new StringBuilder();
        PackLoans alone = new PackLoans();
        for (int step = 0; step < 14; step++) {
            told(due, alone, step);
        }
        StringBuilder got = new StringBuilder();
        PackLoans x = new PackLoans();
        PackLoans other = begun();
        for (int step = 0; step < 14; step++) {
            told(got, x, step);
            told(new StringBuilder(), other, (step + 2) % 10);
            other.charge(0, 5 + step);
            other.append('q');
        }
        BOUNDS.yes("'" + got + "' as '" + due + "' without another object", got.toString().equals(due.toString()));
    }

    private static void buffer() {
        says("Promise 2", "Appends bytes to the input buffer: the 8 bytes of a number");
        says("Promise 2", "- `bytes`: the bytes Returns the new length of the buffer;");
        PackLoans x = new PackLoans();
        BOUNDS.same("packs1 1", x.append(0x7061636b73312031L), 8);
        BOUNDS.same(";pa", x.append(0x3b7061), 11);
        BOUNDS.same("ck9 8", x.append(0x636b392038L), 16);
        BOUNDS.same("its packs", x.load(), 1);
        BOUNDS.same("CAPACITY", x.pack(0, 0), 9);
        BOUNDS.same("CHARGE", x.pack(0, 2), 8);
    }

    private static void loading() {
        says("Promise 3", "Reads the input buffer as a description (section 1) and begins anew");
        says("Promise 3", "Returns the number of packs;");
        PackLoans x = new PackLoans();
        BOUNDS.same("three packs", Checks.load(x, PACKS), 3);
        row("count", PackLoans::count, x, 3, 2, 2, 2, 2, 2, 0, 0, 0);
        x.run(9);
        BOUNDS.same("one pack", Checks.load(x, "packs 1 1;pack 7 5"), 1);
        BOUNDS.same("its time", x.now(), 0);
        says("Promise 5", "Returns in which statement the latest call of load() found its error.");
        Checks.load(x, "packs 1 1;pack 7 5;pack 7 8");
        BOUNDS.same("the third", x.loadStatement(), 2);
        says("Promise 6", "Returns a number. - `what`: 0 packs");
        says("Promise 6", "Returns the number. Throws");
        PackLoans y = lent();
        row("count", PackLoans::count, y, 3, 2, 2, 2, 2, 2, 2, 2, 3);
    }

    private static void numbersOfPacks() {
        says("Promise 7", "Returns a number of a pack. - `pack`: a pack - `what`: 0 CAPACITY");
        says("Promise 7", "Returns the number. Throws");
        PackLoans x = lent();
        row("pack 0,", (y, what) -> y.pack(0, what), x, 1000, 980, 750, 200, 0, 0, 0, 0, 3);
        row("pack 1,", (y, what) -> y.pack(1, what), x, 500, 488, 128, 120, 1, 0, 0, 0, 1);
        row("pack 2,", (y, what) -> y.pack(2, what), x, 300, 300, 46, 0, -1, 0, 0, 0, 0);
        says("Promise 9", "Returns what all suns of a pack give in an hour of the day. - `pack`: a pack - `hour`");
        row("hour 5 of", (y, pack) -> y.gainAt(pack, 5), x, 10, 3, 0);
        says("Promise 16", "Returns how full a pack is. - `pack`: a pack Returns");
        PackLoans first = begun();
        BOUNDS.same("pack 0", first.fullness(0), 0.8f);
        BOUNDS.same("pack 1", first.fullness(1), 0.2f);
        BOUNDS.same("pack 2", first.fullness(2), 0.1f);
    }

    private static void numbersOfCables() {
        says("Promise 8", "Returns a number of the cable between two packs. - `pack`: a pack - `other`: a pack "
                + "- `what`");
        says("Promise 8", "Returns the number; NONE");
        PackLoans x = lent();
        row("cable 0, 1,", (y, what) -> y.cable(0, 1, what), x, 100, 50, 50, 5);
        row("cable 1, 0,", (y, what) -> y.cable(1, 0, what), x, 100, 50, 50, 5);
        row("cable 1, 2,", (y, what) -> y.cable(1, 2, what), x, 200, 30, 20, 4);
        row("cable 2, 1,", (y, what) -> y.cable(2, 1, what), x, 200, 30, 20, 4);
        row("cable 0, 2,", (y, what) -> y.cable(0, 2, what), x, -1, -1, -1, -1);
    }

    private static void numbersOfTrips() {
        says("Promise 10", "Returns a number of a trip. - `trip`: a trip - `what`: 0 its pack");
        says("Promise 10", "Returns the number. Throws");
        PackLoans x = begun();
        row("trip 0,", (y, what) -> y.trip(0, what), x, 0, 1, 100, 0);
        row("trip 1,", (y, what) -> y.trip(1, what), x, 1, 2, 400, 0);
        x.run(3);
        row("trip 0,", (y, what) -> y.trip(0, what), x, 0, 1, 100, 1);
        row("trip 1,", (y, what) -> y.trip(1, what), x, 1, 2, 400, 2);
    }

    private static void numbersOfContracts() {
        says("Promise 11", "Returns a number of a contract. - `contract`: a contract - `what`: 0 LENDER");
        says("Promise 11", "Returns the number. Throws");
        PackLoans x = lent();
        row("contract 0,", (y, what) -> y.contract(0, what), x, 0, 1, 300, 2, 3, 122, 1, 0, 50, 0);
        row("contract 1,", (y, what) -> y.contract(1, what), x, 1, 2, 60, 1, 0, 22, 1, 0, 20, 0);
        x.run(5);
        row("contract 1, given back,", (y, what) -> y.contract(1, what), x, 1, 2, 60, 1, 0, 0, 0, 0, 20, 23);
        says("Promise 11", "8 what was sent for its loans, 9 what lenders got back of them");
        PackLoans z = lent();
        z.forgive(1);
        BOUNDS.same("sent for one that is forgiven", z.contract(1, 8), 20);
        z.undo();
        z.setReserve(0, 1000);
        z.drain(1, 80);
        z.drain(2, 36);
        z.giveBack(0);
        z.giveBack(1);
        z.run(1);
        BOUNDS.same("broken", z.loan(1, 6), 4);
        BOUNDS.same("sent for one that is broken", z.contract(1, 8), 20);
        BOUNDS.same("10 sent back for it", z.contract(1, 9), 8);
        z.forgive(0);
        BOUNDS.same("sent for one that is forgiven while it is given back", z.contract(0, 8), 50);
        BOUNDS.same("50 sent back for it", z.contract(0, 9), 45);
    }

    private static void numbersOfLoans() {
        says("Promise 12", "Returns a number of a loan. - `loan`: a loan - `what`: 0 its contract");
        says("Promise 12", "Returns the number. Throws");
        PackLoans x = lent();
        row("loan 0,", (y, what) -> y.loan(0, what), x, 0, 120, 50, 200, 0, 52, 0, 9);
        row("loan 1,", (y, what) -> y.loan(1, what), x, 1, 20, 20, 120, 0, 22, 1, 5);
        x.run(5);
        row("loan 1, given back,", (y, what) -> y.loan(1, what), x, 1, 20, 20, 120, 23, 0, 3, 5);
    }

    private static void totals() {
        says("Promise 13", "Returns the time. Returns the ticks that have passed");
        BOUNDS.same("now", lent().now(), 1);
        says("Promise 14", "Returns a total since load(). - `what`: 0 what was taken in");
        says("Promise 14", "Returns the total. Throws");
        PackLoans x = lent();
        row("total", (y, what) -> y.total(what), x, 933, 0, 9, 0, 924, 320);
        x.run(1);
        row("total", (y, what) -> y.total(what), x, 936, 100, 14, 0, 822, 870);
        says("Promise 15", "Returns which part of all that was taken in was used.");
        BOUNDS.same("usedPart", x.usedPart(), 100.0 / 936.0);
        PackLoans y = Checks.loaded("packs 1 1;curve 0 0 0 0;pack 100000 1 0");
        for (int i = 0; i < 169; i++) {
            y.charge(0, 99999);
            y.drain(0, 99999);
        }
        y.drain(0, 1);
        y.charge(0, 2);
        BOUNDS.same("of many", y.usedPart(), 16899832.0 / 16899834.0);
        y.drain(0, 1);
        BOUNDS.same("of many and 1 more", y.usedPart(), 16899833.0 / 16899834.0);
    }

    private static void beforeALoan() {
        PackLoans x = begun();
        says("Promise 17", "Returns the interest that a loan would have if all of its amount was sent at once");
        says("Promise 17", "- `contract`: a contract - `amount`");
        says("Promise 17", "Returns the interest (section 3).");
        row("interest of contract", (y, contract) -> y.interest(contract, 100), x, 4, 5);
        row("interest, 1 more, of contract", (y, contract) -> y.interest(contract, 101), x, 5, 6);
        says("Promise 18", "Returns why a loan cannot be given. - `contract`: a contract - `amount`");
        row("hindrance of contract", (y, contract) -> y.hindrance(contract, 60), x, 0, 0);
        row("hindrance, 1 more, of contract", (y, contract) -> y.hindrance(contract, 61), x, 0, 2);
        says("Promise 19", "Finds the contract by which a pack could borrow an amount with the least interest and "
                + "loss: interest(int, int) and what the cable would lose of the amount at once. - `borrower`: a pack");
        row("cheapest of borrower", (y, pack) -> y.cheapest(pack, 10), x, PackLoans.NONE, 0, 1);
        PackLoans dear = Checks.loaded("packs 1 2;curve 9 9 9 9;pack 99 99;pack 99 99;pack 99 99 0;pack 99 9;"
                + "cable 0 3 500 9;cable 1 3 400 9;cable 2 3 0 9;contract 0 3 99 0 0;contract 2 3 99 0 0;"
                + "contract 1 3 99 0 0");
        BOUNDS.same("10 and 10, 90 and 0, 10 and 8", dear.cheapest(3, 20), 2);
    }

    private static void lending() {
        says("Promise 20", "Gives a loan, which is to be given back from the time behind so many ticks on (an action). "
                + "- `contract`: a contract - `amount`");
        PackLoans x = begun();
        BOUNDS.same("by contract 1", x.lend(1, 20, 5), 0);
        BOUNDS.same("its contract", x.loan(0, 0), 1);
        BOUNDS.same("its time", x.loan(0, 7), 5);
        BOUNDS.same("by contract 0", x.lend(0, 120, 9), 1);
        BOUNDS.same("its contract", x.loan(1, 0), 0);
        BOUNDS.same("actions", x.count(8), 2);
        BOUNDS.same("undo", x.undo(), 1);
        BOUNDS.same("loans", x.count(6), 1);
    }

    private static void returning() {
        says("Promise 21", "Recalls a loan: it is given back from NOTICE ticks from now on");
        says("Promise 21", "(an action). - `loan`: a loan Returns");
        PackLoans x = lent();
        BOUNDS.same("loan 0, recalled", x.recall(0), 1 + 2);
        BOUNDS.same("loan 1, recalled", x.recall(1), 1 + 1);
        BOUNDS.same("undo", x.undo(), 4);
        BOUNDS.same("loan 1", x.loan(1, 7), 5);
        BOUNDS.same("loan 0", x.loan(0, 7), 3);
        says("Promise 22", "Lets a loan be given back from the next tick on, if it is not so already (an action): the "
                + "time from which on it is given back becomes the present one");
        says("Promise 22", "- `loan`: a loan Returns what is still owed;");
        BOUNDS.same("loan 1, given back", x.giveBack(1), 22);
        BOUNDS.same("its time", x.loan(1, 7), 1);
        BOUNDS.same("loan 0, given back", x.giveBack(0), 52);
        BOUNDS.same("undo", x.undo(), 5);
        BOUNDS.same("loan 0", x.loan(0, 7), 3);
        x.run(1);
        BOUNDS.same("loan 1 is given back in the next tick", x.loan(1, 6), 3);
        BOUNDS.same("loan 0 is not", x.loan(0, 6), 0);
        says("Promise 23", "Forgives what is still owed of a loan (an action). - `loan`: a loan Returns what was owed");
        PackLoans w = Checks.loaded("packs 1 1;pack 99 90;pack 99 90;cable 0 1 0 50;contract 0 1 99 0 9");
        w.lend(0, 60, 50);
        w.run(1);
        w.recall(0);
        BOUNDS.same("recalled without NOTICE, before the tick", w.loan(0, 6), 0);
        w.undo();
        w.giveBack(0);
        BOUNDS.same("given back, before the tick", w.loan(0, 6), 0);
        w.run(1);
        BOUNDS.same("given back, behind the tick", w.loan(0, 6), 2);
        PackLoans y = lent();
        BOUNDS.same("loan 1, forgiven", y.forgive(1), 22);
        BOUNDS.same("it is not owed", y.owes(2), 0);
        BOUNDS.same("loan 0 is owed", y.owes(1), 52);
        BOUNDS.same("undo", y.undo(), 3);
        BOUNDS.same("it is owed", y.owes(2), 22);
        says("Promise 24", "Lets loans be given again by a contract that was broken (an action). "
                + "- `contract`: a contract Returns");
        PackLoans z = Bounds.allStates();
        z.charge(1, 500);
        BOUNDS.same("a broken contract", z.hindrance(1, 5), 1);
        BOUNDS.same("mended", z.mend(1), 1);
        BOUNDS.same("a loan by it", z.lend(1, 5, 5), 6);
        z.undo();
        z.undo();
        BOUNDS.same("the contract is broken again", z.lend(1, 5, 5), -11);
    }

    private static void charging() {
        says("Promise 25", "Charges a pack from outside; what it has no room for is lost (an action). - `pack`: a "
                + "pack");
        says("Promise 25", "Returns its charge then.");
        PackLoans x = begun();
        BOUNDS.same("pack 1, charged", x.charge(1, 11), 111);
        BOUNDS.same("pack 2, charged", x.charge(2, 22), 52);
        BOUNDS.same("pack 0 is not", x.pack(0, 2), 800);
        BOUNDS.same("taken in", x.total(0), 930 + 33);
        BOUNDS.same("undo", x.undo(), 1);
        BOUNDS.same("pack 2", x.pack(2, 2), 30);
        says("Promise 26", "Uses charge of a pack, as much of the amount as there is (an action). - `pack`: a pack");
        says("Promise 26", "Returns how much was used.");
        BOUNDS.same("pack 0, drained", x.drain(0, 13), 13);
        BOUNDS.same("its charge", x.pack(0, 2), 787);
        BOUNDS.same("pack 2, drained", x.drain(2, 99), 30);
        BOUNDS.same("its charge", x.pack(2, 2), 0);
        BOUNDS.same("used", x.total(1), 43);
        BOUNDS.same("undo", x.undo(), 2);
        BOUNDS.same("pack 2", x.pack(2, 2), 30);
        x.setReserve(2, 20);
        BOUNDS.same("a reserve is not kept from that", x.drain(2, 25), 25);
    }

    private static void settings() {
        says("Promise 27", "Sets the reserve of a pack (0 at first)");
        says("Promise 27", "(an action). - `pack`: a pack - `reserve`");
        says("Promise 27", "Returns the previous value.");
        PackLoans x = begun();
        BOUNDS.same("of pack 1", x.setReserve(1, 41), 0);
        BOUNDS.same("of pack 2", x.setReserve(2, 42), 0);
        BOUNDS.same("of pack 1 again", x.setReserve(1, 43), 41);
        row("reserve of pack", (y, pack) -> y.pack(pack, 5), x, 0, 43, 42);
        x.undo();
        row("reserve, one less, of pack", (y, pack) -> y.pack(pack, 5), x, 0, 41, 42);
        says("Promise 28", "Sets LOSS and RATE of the cable between two packs (an action). - `pack`: a pack - `other`: "
                + "a pack - `loss`");
        BOUNDS.same("of 0 and 1", x.setCable(0, 1, 11, 12), 100);
        BOUNDS.same("of 2 and 1", x.setCable(2, 1, 13, 14), 200);
        BOUNDS.same("of 1 and 0", x.setCable(1, 0, 15, 16), 11);
        row("cable 0, 1,", (y, what) -> y.cable(0, 1, what), x, 15, 16, 0, 0);
        row("cable 1, 2,", (y, what) -> y.cable(1, 2, what), x, 13, 14, 0, 0);
        x.undo();
        row("cable 0, 1, one less,", (y, what) -> y.cable(0, 1, what), x, 11, 12, 0, 0);
    }

    private static void trips() {
        says("Promise 29", "Adds a trip behind the others (an action). - `pack`: a pack - `time`");
        says("Promise 29", "Returns its number;");
        PackLoans x = begun();
        BOUNDS.same("of pack 2", x.addTrip(2, 8, 9), 2);
        BOUNDS.same("of pack 0", x.addTrip(0, 6, 7), 3);
        row("trip 2,", (y, what) -> y.trip(2, what), x, 2, 8, 9, 0);
        row("trip 3,", (y, what) -> y.trip(3, what), x, 0, 6, 7, 0);
        x.undo();
        BOUNDS.same("undo", x.count(4), 3);
        says("Promise 30", "Takes a trip away that is to come; those behind it count one less (an action). - `trip`: a "
                + "trip Returns");
        BOUNDS.same("trip 1", x.dropTrip(1), 2);
        row("the next one,", (y, what) -> y.trip(1, what), x, 2, 8, 9, 0);
        row("the one before it,", (y, what) -> y.trip(0, what), x, 0, 1, 100, 0);
        x.undo();
        row("trip 1 again,", (y, what) -> y.trip(1, what), x, 1, 2, 400, 0);
    }

    private static void running() {
        says("Promise 31", "Lets ticks pass (section 4; an action). - `ticks`");
        says("Promise 31", "Returns the time then.");
        PackLoans x = begun();
        BOUNDS.same("3 ticks", x.run(3), 3);
        BOUNDS.same("4 more", x.run(4), 7);
        BOUNDS.same("of the suns", x.total(0), 930 + 7 * 3 + 2 * 10);
        BOUNDS.same("undo", x.undo(), 1);
        BOUNDS.same("now", x.now(), 3);
        says("Promise 32", "(an action). - `loan`: a loan - `most`");
        PackLoans y = lent();
        BOUNDS.same("loan 1", y.runToClosed(1, 50), 5);
        BOUNDS.same("now", y.now(), 6);
        BOUNDS.same("loan 0", y.runToClosed(0, 50), 6);
        BOUNDS.same("now", y.now(), 12);
        BOUNDS.same("undo", y.undo(), 4);
        BOUNDS.same("now", y.now(), 6);
    }

    private static void foreseen() {
        says("Promise 33", "Predicts the charge of a pack behind some ticks. - `pack`: a pack - `ticks`");
        says("Promise 33", "Returns the charge.");
        PackLoans x = lent();
        row("charge in 1 of", (y, pack) -> y.chargeIn(pack, 1), x, 600, 176, 46);
        says("Promise 34", "Predicts behind how many ticks a trip of a pack will have been missed. - `pack`: a pack "
                + "Returns the ticks;");
        row("missIn of", PackLoans::missIn, x, PackLoans.NONE, 2, PackLoans.NONE);
        says("Promise 37", "Predicts what will lack for a trip when it is to be made. - `trip`: a trip Returns");
        row("lacks of", PackLoans::lacks, x, 0, 400 - 179);
        says("Promise 39", "Predicts how many points of wear a pack will have more behind some ticks. - `pack`: a "
                + "pack");
        says("Promise 39", "Returns the number.");
        row("wear in 1 of", (y, pack) -> y.wearIn(pack, 1), x, 550, 0, 0);
    }

    private static void foreseenLoans() {
        PackLoans x = lent();
        says("Promise 35", "- `loan`: a loan Returns the ticks;");
        row("endIn of", PackLoans::endIn, x, 11, 5);
        says("Promise 36", "Predicts in which state a loan will be when it is not open");
        says("Promise 36", "- `loan`: a loan Returns the state.");
        row("endAs of", PackLoans::endAs, x, 3, 3);
        x.drain(2, 46);
        row("endAs, without charge, of", PackLoans::endAs, x, 3, 4);
        says("Promise 38", "Predicts whether the lender would miss no more trips in the next ticks than without it if "
                + "it lent an amount for these ticks. - `contract`: a contract - `amount`");
        says("Promise 38", "Returns true if so;");
        PackLoans y = begun();
        y.addTrip(0, 2, 500);
        y.addTrip(1, 3, 100);
        row("contract", (z, contract) -> z.isSafe(contract, 9, 5) ? 1 : 0, y, 1, 1);
        row("more than can be spared, contract", (z, contract) -> z.isSafe(contract, 50, 5) ? 1 : 0, y, 1, 0);
        y.addTrip(0, 4, 120);
        row("of both, contract", (z, contract) -> z.isSafe(contract, 60, 5) ? 1 : 0, y, 1, 0);
        row("much of contract", (z, contract) -> z.isSafe(contract, 100, 5) ? 1 : 0, y, 0, 0);
    }

    private static void debts() {
        says("Promise 42", "Returns what a pack owes by all loans that are open. - `pack`: a pack Returns the sum.");
        row("owes", PackLoans::owes, lent(), 0, 52, 22);
        says("Promise 43", "Returns what others owe a pack by all loans that are open. - `pack`: a pack Returns the "
                + "sum.");
        row("isOwed", PackLoans::isOwed, lent(), 52, 22, 0);
    }

    private static void undoing() {
        says("Promise 44", "Takes the latest action back that was not taken back. Returns how many can be taken back "
                + "then;");
        PackLoans x = lent();
        int[] loans = {2, 1, 0};
        for (int left = 2; left >= 0; left--) {
            BOUNDS.same("undo", x.undo(), left);
            BOUNDS.same("loans behind it", x.count(6), loans[2 - left]);
        }
        PackLoans y = lent();
        Checks.load(y, "packs 1 1;pack 1 1");
        y.append('p');
        BOUNDS.same("undo behind a text with an error", y.undo(), 2);
        BOUNDS.same("the kind of that error stays", y.loadError(), 2);
        BOUNDS.same("its statement stays", y.loadStatement(), 1);
        BOUNDS.same("the buffer stays", y.append('q'), 2);
    }

    private static void saving() {
        says("Promise 45", "Copies everything except the input buffer, the results of the latest load, the actions and "
                + "the snapshots to a snapshot. - `slot`");
        String first = Checks.digestWithoutActions(begun());
        String second = Checks.digestWithoutActions(lent());
        PackLoans x = begun();
        x.saveSnapshot(0);
        x.lend(0, 120, 9);
        x.lend(1, 20, 5);
        x.run(1);
        x.saveSnapshot(1);
        x.run(1);
        BOUNDS.same("the first", x.restoreSnapshot(0), 0);
        BOUNDS.yes("is as it was saved", first.equals(Checks.digestWithoutActions(x)));
        BOUNDS.same("the second is no part of it", x.restoreSnapshot(1), 1);
        BOUNDS.yes("is as it was saved", second.equals(Checks.digestWithoutActions(x)));
    }
}
