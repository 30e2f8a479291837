/** Section 5 and promises 44 to 46: each sentence that names a boundary, on both sides of it. */
final class UndoBounds {
    private static final Bounds BOUNDS = Bounds.ALL;
    private static final String PAIR = "packs 10 10;pack 100 50;pack 100 50;cable 0 1 100 50;contract 0 1 70 2 3;"
            + "trip 0 9 5";

    private UndoBounds() {
    }

    static void check() {
        latestEight();
        errorsDoNotCount();
        actionsOfNothing();
        firstException();
        exceptionsBeforeErrors();
        firstError();
        errorsChangeNothing();
        beyondTheLastTime();
        predictionsChangeNothing();
        constants();
        undone();
        nothingToUndo();
        savedAndRestored();
        notSaved();
        restoredTwice();
        slots();
    }

    private static void says(String part, String words) {
        BOUNDS.says(part, words);
    }

    private static void latestEight() {
        says("Section 5", "the latest 8 of them that did not return an error");
        for (int actions = 0; actions <= 25; actions++) {
            PackLoans x = Checks.loaded(PAIR);
            for (int i = 1; i <= actions; i++) {
                x.setReserve(0, i);
            }
            int number = Math.min(8, actions);
            BOUNDS.same("count(8) behind " + actions, x.count(8), number);
            for (int left = number - 1; left >= 0; left--) {
                BOUNDS.same("undo behind " + actions, x.undo(), left);
                BOUNDS.same("what is left then", x.pack(0, 5), actions - number + left);
            }
            BOUNDS.same("one more behind " + actions, x.undo(), PackLoans.NONE);
            BOUNDS.same("it changes nothing", x.pack(0, 5), actions - number);
        }
    }

    private static void errorsDoNotCount() {
        says("Section 5", "that did not return an error");
        PackLoans x = Checks.loaded(PAIR);
        x.lend(0, 10, 9);
        x.forgive(0);
        x.run(1);
        for (int i = 0; i < 9; i++) {
            x.recall(0);
            x.giveBack(0);
            x.forgive(0);
            x.lend(0, 71, 1);
            x.addTrip(0, 0, 1);
            x.setCable(1, 1, 1, 1);
            Bounds.outcome(x, y -> y.run(0));
            Bounds.outcome(x, y -> y.charge(2, 1));
        }
        BOUNDS.same("count(8)", x.count(8), 3);
        BOUNDS.same("undo of run", x.undo(), 2);
        BOUNDS.same("now", x.now(), 0);
        BOUNDS.same("undo of forgive", x.undo(), 1);
        BOUNDS.same("its state", x.loan(0, 6), 0);
        BOUNDS.same("undo of lend", x.undo(), 0);
        BOUNDS.same("no loan", x.count(6), 0);
    }

    /** It is an action, and what it leaves is as before; so is what its undo leaves. */
    private static void nothing(String name, Bounds.Call call) {
        PackLoans other = Bounds.allStates();
        other.undo();
        String state = Checks.digestWithoutActions(other);
        PackLoans x = Bounds.allStates();
        x.undo();
        int before = x.count(8);
        Bounds.outcome(x, call);
        BOUNDS.same("count(8) behind " + name, x.count(8), before + 1);
        BOUNDS.yes(name + " changes nothing", state.equals(Checks.digestWithoutActions(x)));
        BOUNDS.same("undo of " + name, x.undo(), before);
        BOUNDS.yes("nor does its undo", state.equals(Checks.digestWithoutActions(x)));
    }

    private static void actionsOfNothing() {
        says("Section 5", "An action counts also if it changes nothing");
        nothing("recall", x -> x.recall(4));
        nothing("giveBack", x -> x.giveBack(4));
        nothing("mend", x -> x.mend(0));
        nothing("drain of an empty pack", x -> x.drain(1, 100));
        nothing("setReserve", x -> x.setReserve(0, 0));
        nothing("setCable", x -> x.setCable(0, 1, 0, 50));
        nothing("runToClosed", x -> x.runToClosed(0, 1000));
    }

    private static void thrown(String name, long due, Bounds.Call call) {
        BOUNDS.refused(Bounds::begun, name, call, due);
    }

    private static void firstException() {
        says("Section 5", "If several exceptions apply, the one that is named first is thrown");
        thrown("pack", Bounds.NO_INDEX, x -> x.pack(2, 9));
        thrown("cable, pack", Bounds.NO_INDEX, x -> x.cable(2, 0, 4));
        thrown("cable, other", Bounds.NO_INDEX, x -> x.cable(0, 2, 4));
        thrown("gainAt", Bounds.NO_INDEX, x -> x.gainAt(-1, 24));
        thrown("trip", Bounds.NO_INDEX, x -> x.trip(3, 4));
        thrown("contract", Bounds.NO_INDEX, x -> x.contract(2, 10));
        thrown("loan", Bounds.NO_INDEX, x -> x.loan(2, 8));
        thrown("interest", Bounds.NO_INDEX, x -> x.interest(2, 0));
        thrown("hindrance", Bounds.NO_INDEX, x -> x.hindrance(2, 100001));
        thrown("cheapest", Bounds.NO_INDEX, x -> x.cheapest(2, 0));
        thrown("lend, amount", Bounds.NO_INDEX, x -> x.lend(2, 0, 1));
        thrown("lend, ticks", Bounds.NO_INDEX, x -> x.lend(-1, 1, 1000));
        thrown("charge", Bounds.NO_INDEX, x -> x.charge(2, 0));
        thrown("drain", Bounds.NO_INDEX, x -> x.drain(2, 100001));
        thrown("setReserve", Bounds.NO_INDEX, x -> x.setReserve(2, -1));
        thrown("setCable, pack and loss", Bounds.NO_INDEX, x -> x.setCable(2, 0, 901, 1));
        thrown("setCable, other and rate", Bounds.NO_INDEX, x -> x.setCable(0, 2, 1, 0));
        thrown("addTrip, time", Bounds.NO_INDEX, x -> x.addTrip(2, 10000, 1));
        thrown("addTrip, need", Bounds.NO_INDEX, x -> x.addTrip(-1, 10, 0));
        thrown("runToClosed", Bounds.NO_INDEX, x -> x.runToClosed(2, 0));
        thrown("chargeIn", Bounds.NO_INDEX, x -> x.chargeIn(2, 501));
        thrown("isSafe, amount", Bounds.NO_INDEX, x -> x.isSafe(2, 0, 1) ? 1 : 0);
        thrown("isSafe, ticks", Bounds.NO_INDEX, x -> x.isSafe(2, 1, 501) ? 1 : 0);
        thrown("wearIn", Bounds.NO_INDEX, x -> x.wearIn(2, 0));
    }

    private static void exceptionsBeforeErrors() {
        says("Section 5", "exceptions come before errors");
        BOUNDS.refused(Bounds::allStates, "lend by a broken contract, amount", x -> x.lend(1, 0, 1), Bounds.ILLEGAL);
        BOUNDS.refused(Bounds::allStates, "lend by a broken contract, ticks", x -> x.lend(1, 1, 1000), Bounds.ILLEGAL);
        BOUNDS.refused(Bounds::allStates, "lend above LIMIT", x -> x.lend(0, 100001, 1), Bounds.ILLEGAL);
        thrown("setCable without a cable, loss", Bounds.ILLEGAL, x -> x.setCable(0, 0, 901, 1));
        thrown("setCable without a cable, rate", Bounds.ILLEGAL, x -> x.setCable(0, 0, 1, 10001));
        thrown("cable without a cable", Bounds.ILLEGAL, x -> x.cable(0, 0, 4));
        thrown("addTrip in the past", Bounds.ILLEGAL, x -> x.addTrip(0, 0, 0));
        thrown("restoreSnapshot", Bounds.ILLEGAL, x -> x.restoreSnapshot(2));
        Bounds.Maker full = () -> Checks.loaded("packs 1 1;pack 9 9" + ";trip 0 1 1".repeat(16));
        BOUNDS.refused(full, "addTrip to 16, need", x -> x.addTrip(0, 5, 0), Bounds.ILLEGAL);
        BOUNDS.refused(full, "addTrip to 16, time", x -> x.addTrip(0, 10000, 1), Bounds.ILLEGAL);
        BOUNDS.refused(full, "addTrip to 16, pack", x -> x.addTrip(1, 5, 1), Bounds.NO_INDEX);
    }

    private static void firstError() {
        says("Section 5", "of several errors the one that is named first is returned");
        Bounds.Maker full = () -> {
            PackLoans x = Checks.loaded("packs 1 1;pack 9 9" + ";trip 0 1 1".repeat(16));
            x.run(5);
            return x;
        };
        BOUNDS.refused(full, "addTrip to 16 in the past", x -> x.addTrip(0, 4, 1), PackLoans.FULL);
        BOUNDS.refused(Bounds::allStates, "lend above LIMIT and above the reserve", x -> x.lend(0, 100000, 1), -12);
        BOUNDS.refused(Bounds::allStates, "lend by a broken contract above LIMIT", x -> x.lend(1, 301, 1), -11);
    }

    private static void errorsChangeNothing() {
        says("Section 5", "A method that returns FULL, WRONG_STATE, TOO_LATE or less than -10, or throws an exception");
        BOUNDS.refused(() -> Checks.loaded(PAIR + ";trip 0 1 1".repeat(15)), "addTrip", x -> x.addTrip(0, 5, 1),
                PackLoans.FULL);
        BOUNDS.refused(Bounds::allStates, "recall", x -> x.recall(0), PackLoans.WRONG_STATE);
        BOUNDS.refused(Bounds::allStates, "giveBack", x -> x.giveBack(1), PackLoans.WRONG_STATE);
        BOUNDS.refused(Bounds::allStates, "forgive", x -> x.forgive(2), PackLoans.WRONG_STATE);
        BOUNDS.refused(Bounds::begun, "dropTrip", x -> x.dropTrip(0), PackLoans.WRONG_STATE);
        BOUNDS.refused(Bounds::begun, "addTrip", x -> x.addTrip(0, 2, 1), PackLoans.TOO_LATE);
        BOUNDS.refused(Bounds::allStates, "lend", x -> x.lend(1, 1, 1), -11);
        BOUNDS.refused(Bounds::begun, "mend", x -> x.mend(2), Bounds.NO_INDEX);
        BOUNDS.refused(Bounds::begun, "run", x -> x.run(0), Bounds.ILLEGAL);
        says("Section 5", "or throws an exception, changes nothing, except as load() says");
        PackLoans loaded = Bounds.begun();
        loaded.append(120);
        BOUNDS.same("load", loaded.load(), -100);
        BOUNDS.same("its buffer", loaded.append(0), 0);
        BOUNDS.same("loadError", loaded.loadError(), 1);
        BOUNDS.same("loadStatement", loaded.loadStatement(), 0);
        BOUNDS.yes("the rest", Checks.digest(loaded).equals(Checks.digest(Bounds.begun())));
        says("Section 5", "A NONE of setCable(int, int, int, int) is no action");
        BOUNDS.refused(Bounds::begun, "setCable", x -> x.setCable(0, 0, 1, 1), PackLoans.NONE);
    }

    private static PackLoans last() {
        PackLoans x = Checks.loaded("packs 10 10;pack 100 50;pack 100 40;cable 0 1 0 50;contract 0 1 70 2 3;"
                + "sun 1 15 15 1;sun 1 16 16 3;trip 0 9999 5;trip 1 9999 99");
        for (int i = 0; i < 9; i++) {
            x.run(1000);
        }
        x.run(999);
        x.drain(1, 100);
        x.lend(0, 10, 999);
        return x;
    }

    private static void beyondTheLastTime() {
        says("Section 5", "also beyond the time 9999");
        PackLoans x = last();
        BOUNDS.same("now", x.now(), 9999);
        int before = x.pack(1, 2);
        // 9999 is the hour 15 of its day; the trip of pack 0 is made then, and 10 are lent.
        BOUNDS.same("in 1 tick", x.chargeIn(1, 1), before + 1 + 10);
        BOUNDS.same("in 2 ticks", x.chargeIn(1, 2), before + 1 + 10 + 3);
        BOUNDS.same("in 500 ticks", x.chargeIn(0, 500), 50 - 5 - 10);
        BOUNDS.same("wear in 500 ticks", x.wearIn(0, 500), 15);
        BOUNDS.same("missIn", x.missIn(1), 1);
        BOUNDS.same("lacks", x.lacks(1), 99 - before - 1);
        BOUNDS.same("endIn", x.endIn(0), PackLoans.NONE);
        BOUNDS.same("endAs", x.endAs(0), 1);
        BOUNDS.yes("isSafe", x.isSafe(0, 45, 500));
        BOUNDS.yes("isSafe of too much", !x.isSafe(0, 51, 500));
        x.giveBack(0);
        BOUNDS.same("endIn of one that is given back", x.endIn(0), 1);
        BOUNDS.same("endAs of one that is given back", x.endAs(0), 3);
    }

    private static void predictionsChangeNothing() {
        says("Section 5", "Predictions let ticks pass as run(int) does, also beyond the time 9999, and change nothing");
        for (Bounds.Maker maker : new Bounds.Maker[] {Bounds::begun, UndoBounds::last}) {
            PackLoans x = maker.make();
            BOUNDS.refused(maker, "chargeIn", y -> y.chargeIn(1, 500), x.chargeIn(1, 500));
            BOUNDS.refused(maker, "missIn", y -> y.missIn(1), x.missIn(1));
            BOUNDS.refused(maker, "endIn", y -> y.endIn(0), x.endIn(0));
            BOUNDS.refused(maker, "endAs", y -> y.endAs(0), x.endAs(0));
            BOUNDS.refused(maker, "lacks", y -> y.lacks(1), x.lacks(1));
            BOUNDS.refused(maker, "isSafe", y -> y.isSafe(0, 30, 500) ? 1 : 0, x.isSafe(0, 30, 500) ? 1 : 0);
            BOUNDS.refused(maker, "wearIn", y -> y.wearIn(0, 500), x.wearIn(0, 500));
        }
        for (int ticks : new int[] {1, 2, 37, 500}) {
            PackLoans x = Bounds.begun();
            int[] foreseen = {x.chargeIn(0, ticks), x.chargeIn(1, ticks), x.wearIn(0, ticks) + x.pack(0, 3),
                x.wearIn(1, ticks) + x.pack(1, 3)};
            x.run(ticks);
            int[] seen = {x.pack(0, 2), x.pack(1, 2), x.pack(0, 3), x.pack(1, 3)};
            for (int i = 0; i < seen.length; i++) {
                BOUNDS.same("as run(" + ticks + "), number " + i, foreseen[i], seen[i]);
            }
        }
    }

    private static void constants() {
        says("Section 5", "`NONE = -1`: There is no such thing");
        BOUNDS.same("NONE", PackLoans.NONE, -1);
        says("Section 5", "`FULL = -2`: A limit would be exceeded");
        BOUNDS.same("FULL", PackLoans.FULL, -2);
        says("Section 5", "`WRONG_STATE = -3`: A loan is not open, or a trip is not to come");
        BOUNDS.same("WRONG_STATE", PackLoans.WRONG_STATE, -3);
        says("Section 5", "`TOO_LATE = -4`: A time has passed");
        BOUNDS.same("TOO_LATE", PackLoans.TOO_LATE, -4);
    }

    private static void undone() {
        says("Promise 44", "Takes the latest action back that was not taken back");
        PackLoans x = Checks.loaded(PAIR);
        String[] states = new String[9];
        for (int i = 0; i < 9; i++) {
            states[i] = x.now() + " " + x.pack(0, 2) + " " + x.pack(0, 5) + " " + x.count(4) + " " + x.count(6);
            switch (i) {
                case 0: x.charge(0, 9); break;
                case 1: x.lend(0, 20, 3); break;
                case 2: x.run(1); break;
                case 3: x.addTrip(0, 7, 7); break;
                case 4: x.drain(0, 11); break;
                case 5: x.dropTrip(0); break;
                case 6: x.setReserve(0, 13); break;
                case 7: x.run(5); break;
                default: break;
            }
        }
        for (int left = 7; left >= 0; left--) {
            BOUNDS.same("how many can be taken back then", x.undo(), left);
            BOUNDS.yes("as before action " + left, states[left].equals(x.now() + " " + x.pack(0, 2) + " " + x.pack(0, 5)
                    + " " + x.count(4) + " " + x.count(6)));
        }
        x.setReserve(0, 1);
        x.setReserve(0, 2);
        x.setReserve(0, 3);
        x.undo();
        x.undo();
        x.setReserve(0, 4);
        BOUNDS.same("the action behind an undo", x.undo(), 1);
        BOUNDS.same("its reserve", x.pack(0, 5), 1);
        BOUNDS.same("the one before it", x.undo(), 0);
        BOUNDS.same("its reserve", x.pack(0, 5), 0);
    }

    private static void nothingToUndo() {
        says("Promise 44", "NONE, and nothing changes, if there is none");
        BOUNDS.refused(PackLoans::new, "a new object", PackLoans::undo, PackLoans.NONE);
        BOUNDS.refused(() -> Checks.loaded(PAIR), "behind load", PackLoans::undo, PackLoans.NONE);
        Bounds.Maker restored = () -> {
            PackLoans x = Bounds.begun();
            x.restoreSnapshot(0);
            return x;
        };
        BOUNDS.refused(restored, "behind restoreSnapshot", PackLoans::undo, PackLoans.NONE);
        Bounds.Maker spent = () -> {
            PackLoans x = Bounds.begun();
            for (int left = 7; left >= 0; left--) {
                x.undo();
            }
            return x;
        };
        BOUNDS.refused(spent, "behind 8", PackLoans::undo, PackLoans.NONE);
    }

    private static void savedAndRestored() {
        says("Promise 45", "Copies everything except the input buffer, the results of the latest load, the actions");
        PackLoans x = Bounds.begun();
        String state = Checks.digestWithoutActions(x);
        BOUNDS.same("saveSnapshot", x.saveSnapshot(1), 3);
        BOUNDS.same("the actions stay", x.count(8), 8);
        BOUNDS.same("a load with an error", Checks.load(x, "x"), -100);
        x.append(112);
        BOUNDS.same("a load of others", Checks.load(x, "acks 1 1;pack 7 7"), 1);
        x.append(112);
        BOUNDS.same("loadError", x.loadError(), 0);
        Checks.load(x, "?");
        x.append(0x7061);
        BOUNDS.same("restoreSnapshot", x.restoreSnapshot(1), 3);
        BOUNDS.yes("everything", state.equals(Checks.digestWithoutActions(x)));
        BOUNDS.same("loadError stays", x.loadError(), 1);
        BOUNDS.same("loadStatement stays", x.loadStatement(), 0);
        BOUNDS.same("the buffer stays", x.append(0), 2);
        says("Promise 46", "nothing can be taken back then");
        BOUNDS.same("count(8)", x.count(8), 0);
        BOUNDS.same("undo", x.undo(), PackLoans.NONE);
        says("Promise 45", "Returns the time");
        BOUNDS.same("at the first time", new PackLoans().saveSnapshot(0), 0);
        PackLoans last = last();
        BOUNDS.same("at the last time", last.saveSnapshot(0), 9999);
        says("Promise 46", "Returns the time");
        last.undo();
        last.undo();
        last.undo();
        BOUNDS.same("now", last.now(), 9000);
        BOUNDS.same("at the last time", last.restoreSnapshot(0), 9999);
        BOUNDS.same("now", last.now(), 9999);
    }

    private static void notSaved() {
        says("Promise 46", "NONE if nothing was saved there");
        BOUNDS.refused(PackLoans::new, "slot 0", x -> x.restoreSnapshot(0), PackLoans.NONE);
        BOUNDS.refused(PackLoans::new, "slot 1", x -> x.restoreSnapshot(1), PackLoans.NONE);
        BOUNDS.refused(Bounds::begun, "the other slot", x -> x.restoreSnapshot(1), PackLoans.NONE);
        BOUNDS.same("the slot that was saved", Bounds.begun().restoreSnapshot(0), 0);
        PackLoans x = Checks.loaded(PAIR);
        x.saveSnapshot(1);
        BOUNDS.same("slot 0 behind slot 1", x.restoreSnapshot(0), PackLoans.NONE);
        x.undo();
        Checks.load(x, PAIR);
        BOUNDS.same("slot 1 behind undo and load", x.restoreSnapshot(1), 0);
        PackLoans empty = new PackLoans();
        empty.saveSnapshot(0);
        Checks.load(empty, PAIR);
        BOUNDS.same("a snapshot without packs", empty.restoreSnapshot(0), 0);
        BOUNDS.same("its packs", empty.count(0), 0);
    }

    private static void restoredTwice() {
        says("Promise 46", "Replaces everything by a copy of a snapshot, which stays");
        PackLoans sent = Checks.loaded(PAIR);
        sent.lend(0, 20, 9);
        sent.run(1);
        sent.saveSnapshot(1);
        sent.run(1);
        BOUNDS.same("sent in the latest tick", sent.cable(0, 1, 2), 0);
        sent.restoreSnapshot(1);
        BOUNDS.same("sent in the latest tick of the snapshot", sent.cable(0, 1, 2), 20);
        PackLoans x = Bounds.begun();
        x.restoreSnapshot(0);
        String state = Checks.digest(x);
        x.run(20);
        x.drain(0, 9);
        x.lend(0, 9, 9);
        x.setCable(0, 1, 1, 1);
        x.dropTrip(2);
        BOUNDS.same("again", x.restoreSnapshot(0), 0);
        BOUNDS.yes("as it was", state.equals(Checks.digest(x)));
        x.run(1);
        BOUNDS.same("saved anew", x.saveSnapshot(0), 1);
        x.run(1);
        BOUNDS.same("the newer one", x.restoreSnapshot(0), 1);
        PackLoans y = Checks.loaded(PAIR);
        y.saveSnapshot(0);
        y.run(1);
        y.saveSnapshot(1);
        y.run(1);
        BOUNDS.same("slot 0", y.restoreSnapshot(0), 0);
        BOUNDS.same("slot 1", y.restoreSnapshot(1), 1);
        BOUNDS.same("slot 0 again", y.restoreSnapshot(0), 0);
    }

    private static void slots() {
        says("Promise 45", "`slot`: 0 or 1");
        says("Promise 45", "Throws `IllegalArgumentException` if slot is out of range");
        BOUNDS.range(Bounds::begun, "saveSnapshot", 0, 1, PackLoans::saveSnapshot);
        says("Promise 46", "`slot`: 0 or 1");
        says("Promise 46", "Throws `IllegalArgumentException` if slot is out of range");
        Bounds.Maker both = () -> {
            PackLoans x = Bounds.begun();
            x.saveSnapshot(1);
            return x;
        };
        BOUNDS.range(both, "restoreSnapshot", 0, 1, PackLoans::restoreSnapshot);
    }
}
