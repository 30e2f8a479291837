import java.util.function.Consumer;

/** Promises 44 to 46: undo and the snapshots; and that errors and exceptions change nothing. */
public final class TakingBackTest {
    private static final Checks CHECKS = new Checks();
    private static final String PAIR = "packs 10 100;curve 1 2 3 4;pack 1000 500 0;pack 1000 100;cable 0 1 100 50;"
            + "contract 0 1 300 2 3;contract 1 0 50 0 0;sun 1 0 23 1;trip 0 2 20;trip 0 50 6";

    private TakingBackTest() {
    }

    public static void main(String[] args) {
        eachAction();
        latestEight();
        notActions();
        errorsChangeNothing();
        snapshots();
        snapshotsAcrossLoads();
        CHECKS.end("TakingBackTest");
    }

    private static PackLoans begun() {
        PackLoans x = Checks.loaded(PAIR);
        x.lend(0, 20, 6);
        x.lend(1, 30, 1);
        x.run(1);
        x.drain(0, 500);
        x.drain(1, 500);
        x.run(2);
        x.charge(0, 60);
        x.lend(0, 50, 20);
        return x;
    }

    private static void taken(String name, boolean changes, Consumer<PackLoans> action) {
        PackLoans other = begun();
        CHECKS.same("a broken contract", other.contract(1, 7), 1);
        String before = Checks.digestWithoutActions(other);
        CHECKS.same("undo", other.undo(), 7);
        String earlier = Checks.digestWithoutActions(other);
        PackLoans x = begun();
        CHECKS.same("actions", x.count(8), 8);
        x.undo();
        CHECKS.same("lend again", x.lend(0, 50, 20), 2);
        action.accept(x);
        CHECKS.same(name + " is an action", x.count(8), 8);
        CHECKS.yes(name + " changes something", changes != before.equals(Checks.digestWithoutActions(x)));
        CHECKS.same("undo of " + name, x.undo(), 7);
        CHECKS.yes(name + " was taken back", before.equals(Checks.digestWithoutActions(x)));
        PackLoans y = begun();
        action.accept(y);
        y.undo();
        CHECKS.same("one more undo", y.undo(), 6);
        CHECKS.yes("lend was taken back", earlier.equals(Checks.digestWithoutActions(y)));
    }

    private static void eachAction() {
        taken("lend", true, x -> x.lend(0, 7, 9));
        taken("recall", true, x -> x.recall(2));
        taken("giveBack", true, x -> x.giveBack(2));
        taken("forgive", true, x -> x.forgive(0));
        taken("mend", true, x -> x.mend(1));
        taken("mend of what is whole", false, x -> x.mend(0));
        taken("charge", true, x -> x.charge(0, 1));
        taken("charge above the room", true, x -> x.charge(0, 100000));
        taken("drain", true, x -> x.drain(0, 1));
        taken("setReserve", true, x -> x.setReserve(1, 5));
        taken("setReserve to the same", false, x -> x.setReserve(1, 0));
        taken("setCable", true, x -> x.setCable(0, 1, 3, 4));
        taken("setCable to the same", false, x -> x.setCable(0, 1, 100, 50));
        taken("addTrip", true, x -> x.addTrip(1, 9, 9));
        taken("dropTrip", true, x -> x.dropTrip(1));
        taken("run", true, x -> x.run(1));
        taken("run far", true, x -> x.run(60));
        taken("runToClosed", true, x -> x.runToClosed(2, 3));
        taken("runToClosed of a broken loan", false, x -> x.runToClosed(1, 3));
    }

    private static void latestEight() {
        PackLoans x = Checks.loaded(PAIR);
        CHECKS.same("nothing to undo", x.undo(), PackLoans.NONE);
        for (int i = 1; i <= 20; i++) {
            x.setReserve(0, i);
            CHECKS.same("actions", x.count(8), Math.min(i, 8));
        }
        for (int i = 7; i >= 0; i--) {
            CHECKS.same("undo", x.undo(), i);
            CHECKS.same("reserve", x.pack(0, 5), 12 + i);
            CHECKS.same("actions", x.count(8), i);
        }
        CHECKS.same("no more", x.undo(), PackLoans.NONE);
        CHECKS.same("reserve", x.pack(0, 5), 12);
        x.setReserve(0, 50);
        x.setReserve(0, 51);
        x.undo();
        x.setReserve(0, 52);
        CHECKS.same("undo behind a new action", x.undo(), 1);
        CHECKS.same("reserve", x.pack(0, 5), 50);
        CHECKS.same("undo", x.undo(), 0);
        CHECKS.same("reserve", x.pack(0, 5), 12);
    }

    private static void notActions() {
        PackLoans x = Checks.loaded(PAIR);
        x.run(1);
        x.append('p');
        CHECKS.same("saveSnapshot", x.saveSnapshot(1), 1);
        CHECKS.same("actions", x.count(8), 1);
        CHECKS.same("undo", x.undo(), 0);
        CHECKS.same("the buffer stays", x.append('q'), 2);
        CHECKS.same("a load with an error", x.load(), -100);
        x.run(2);
        x.undo();
        CHECKS.same("the results of load stay", x.loadError(), 1);
        CHECKS.same("the results of load stay", x.loadStatement(), 0);
        CHECKS.same("the snapshot stays", x.restoreSnapshot(1), 1);
        CHECKS.same("now", x.now(), 1);
    }

    private static void unchanged(String name, long answer, long due, Consumer<PackLoans> call) {
        PackLoans x = begun();
        String before = Checks.digest(x);
        call.accept(x);
        CHECKS.yes(name + " changes nothing", before.equals(Checks.digest(x)));
        x.undo();
        CHECKS.same(name + " is no action", x.count(6), 2);
        CHECKS.same(name, answer, due);
    }

    private static void thrown(String name, Consumer<PackLoans> call) {
        unchanged(name, 0, 0, x -> {
            try {
                call.accept(x);
                CHECKS.yes(name + " throws", false);
            } catch (IndexOutOfBoundsException | IllegalArgumentException e) {
                CHECKS.yes(name + " throws", true);
            }
        });
    }

    private static void errorsChangeNothing() {
        unchanged("lend", begun().lend(1, 1, 1), -11, x -> x.lend(1, 1, 1));
        unchanged("lend", begun().lend(0, 300, 1), -12, x -> x.lend(0, 300, 1));
        unchanged("lend", begun().lend(0, 61, 1), -13, x -> x.lend(0, 61, 1));
        unchanged("recall", begun().recall(1), -3, x -> x.recall(1));
        unchanged("giveBack", begun().giveBack(1), -3, x -> x.giveBack(1));
        unchanged("forgive", begun().forgive(1), -3, x -> x.forgive(1));
        unchanged("setCable", begun().setCable(0, 0, 1, 1), -1, x -> x.setCable(0, 0, 1, 1));
        unchanged("addTrip", begun().addTrip(0, 2, 1), -4, x -> x.addTrip(0, 2, 1));
        unchanged("dropTrip", begun().dropTrip(0), -3, x -> x.dropTrip(0));
        unchanged("restoreSnapshot", begun().restoreSnapshot(0), -1, x -> x.restoreSnapshot(0));
        thrown("lend", x -> x.lend(0, 1, 0));
        thrown("recall", x -> x.recall(3));
        thrown("charge", x -> x.charge(0, 0));
        thrown("drain", x -> x.drain(2, 1));
        thrown("setReserve", x -> x.setReserve(0, -1));
        thrown("setCable", x -> x.setCable(0, 1, 901, 1));
        thrown("addTrip", x -> x.addTrip(0, 10000, 1));
        thrown("dropTrip", x -> x.dropTrip(2));
        thrown("run", x -> x.run(0));
        thrown("runToClosed", x -> x.runToClosed(0, 0));
        thrown("mend", x -> x.mend(2));
        thrown("saveSnapshot", x -> x.saveSnapshot(2));
        thrown("restoreSnapshot", x -> x.restoreSnapshot(-1));
    }

    private static void snapshots() {
        PackLoans x = begun();
        for (int slot : new int[] {Integer.MIN_VALUE, -1, 2, Integer.MAX_VALUE}) {
            CHECKS.illegal("saveSnapshot " + slot, () -> x.saveSnapshot(slot));
            CHECKS.illegal("restoreSnapshot " + slot, () -> x.restoreSnapshot(slot));
        }
        CHECKS.same("nothing was saved", x.restoreSnapshot(0), PackLoans.NONE);
        CHECKS.same("the actions stay", x.count(8), 8);
        String first = Checks.digestWithoutActions(begun());
        PackLoans changed = begun();
        changeMuch(changed);
        String second = Checks.digestWithoutActions(changed);
        CHECKS.same("saveSnapshot 0", x.saveSnapshot(0), 3);
        changeMuch(x);
        CHECKS.same("saveSnapshot 1", x.saveSnapshot(1), 43);
        CHECKS.same("actions", x.count(8), 8);
        CHECKS.same("restoreSnapshot 0", x.restoreSnapshot(0), 3);
        CHECKS.yes("as it was", first.equals(Checks.digestWithoutActions(x)));
        CHECKS.same("nothing can be taken back", x.count(8), 0);
        CHECKS.same("nothing can be taken back", x.undo(), PackLoans.NONE);
        x.run(9);
        x.charge(1, 50);
        CHECKS.same("restoreSnapshot 0 again", x.restoreSnapshot(0), 3);
        CHECKS.yes("the snapshot stays", first.equals(Checks.digestWithoutActions(x)));
        PackLoans z = begun();
        z.saveSnapshot(0);
        changeMuch(z);
        z.saveSnapshot(1);
        z.restoreSnapshot(0);
        z.run(9);
        CHECKS.same("undo", z.undo(), 0);
        CHECKS.yes("undo behind a snapshot", first.equals(Checks.digestWithoutActions(z)));
        CHECKS.same("restoreSnapshot 1", z.restoreSnapshot(1), 43);
        CHECKS.yes("as it was", second.equals(Checks.digestWithoutActions(z)));
        z.saveSnapshot(0);
        z.run(1);
        CHECKS.same("a snapshot is replaced", z.restoreSnapshot(0), 43);
        PackLoans y = Checks.loaded(PAIR);
        y.lend(0, 5, 5);
        y.saveSnapshot(0);
        y.undo();
        y.lend(1, 6, 6);
        CHECKS.same("contract of the later loan", y.loan(0, 0), 1);
        y.restoreSnapshot(0);
        CHECKS.same("contract of the loan in the snapshot", y.loan(0, 0), 0);
    }

    private static void changeMuch(PackLoans x) {
        x.run(40);
        x.mend(1);
        x.setCable(0, 1, 7, 7);
        x.dropTrip(1);
    }

    private static void snapshotsAcrossLoads() {
        String later = "packs 3 3;curve 9 9 9 9;pack 30 3;pack 40 4 0;pack 50 5;cable 2 0 1 2;sun 2 1 1 1;trip 2 2 2;"
                + "contract 2 0 4 4 4";
        String first = Checks.digestWithoutActions(begun());
        String second = Checks.digestWithoutActions(Checks.loaded(later));
        PackLoans x = begun();
        x.saveSnapshot(0);
        Checks.load(x, later);
        x.saveSnapshot(1);
        x.append('a');
        CHECKS.same("restoreSnapshot 0", x.restoreSnapshot(0), 3);
        CHECKS.yes("the earlier description", first.equals(Checks.digestWithoutActions(x)));
        CHECKS.same("FADE and WORTH too", x.interest(0, 100), 1);
        CHECKS.same("the buffer stays", x.append('b'), 2);
        x.load();
        CHECKS.same("restoreSnapshot 1", x.restoreSnapshot(1), 0);
        CHECKS.yes("the later description", second.equals(Checks.digestWithoutActions(x)));
        CHECKS.same("the results of load stay", x.loadError(), 1);
        CHECKS.same("an empty buffer", x.append(0), 0);
        PackLoans y = new PackLoans();
        y.saveSnapshot(0);
        Checks.load(y, PAIR);
        CHECKS.same("restoreSnapshot of a new object", y.restoreSnapshot(0), 0);
        CHECKS.same("no packs", y.count(0), 0);
    }
}
