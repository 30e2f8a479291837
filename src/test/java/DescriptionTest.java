/** Promises 1 to 5: a new object, append, load, loadError, loadStatement. */
public final class DescriptionTest {
    private static final Checks CHECKS = new Checks();
    private static final String TWO = "packs 1 1;pack 9 9;pack 9 9;";
    private static final String JOINED = TWO + "cable 0 1 0 1;";

    private DescriptionTest() {
    }

    public static void main(String[] args) {
        newObject();
        appending();
        goodTexts();
        wrongPlaces();
        outOfRange();
        unfitPacks();
        tooMany();
        loadingAnew();
        errorChangesNothing();
        CHECKS.end("DescriptionTest");
    }

    private static void newObject() {
        PackLoans packs = new PackLoans();
        for (int what = 0; what <= 8; what++) {
            CHECKS.same("new: count(" + what + ")", packs.count(what), 0);
        }
        CHECKS.same("new: now", packs.now(), 0);
        CHECKS.same("new: undo", packs.undo(), PackLoans.NONE);
        CHECKS.same("new: restoreSnapshot 0", packs.restoreSnapshot(0), PackLoans.NONE);
        CHECKS.same("new: restoreSnapshot 1", packs.restoreSnapshot(1), PackLoans.NONE);
        CHECKS.same("new: loadError", packs.loadError(), 0);
        CHECKS.same("new: loadStatement", packs.loadStatement(), PackLoans.NONE);
        CHECKS.same("new: append nothing", packs.append(0), 0);
        for (int what = 0; what <= 5; what++) {
            CHECKS.same("new: total(" + what + ")", packs.total(what), 0);
        }
    }

    private static void appending() {
        PackLoans packs = new PackLoans();
        CHECKS.same("append 8", packs.append(0x7061636b73203120L), 8);
        CHECKS.same("append with zeros inside", packs.append(0x3100000000000000L), 9);
        CHECKS.same("append load", packs.load(), 0);
        CHECKS.same("zeros between", packs.append(0x7000610063006b00L), 4);
        CHECKS.same("zeros between", packs.append(0x0073002000310020L), 8);
        CHECKS.same("zeros between", packs.append('1'), 9);
        CHECKS.same("zeros between load", packs.load(), 0);
        CHECKS.same("negative bytes count", packs.append(-1), 8);
        CHECKS.same("negative bytes load", packs.load(), -100);
        for (int i = 1; i <= 62; i++) {
            CHECKS.same("append " + i, packs.append(0x2020202020202020L), 8 * i);
        }
        CHECKS.same("append beyond 500", packs.append(0x2020202020L), PackLoans.FULL);
        CHECKS.same("append up to 500", packs.append(0x20202020L), 500);
        CHECKS.same("append beyond 500", packs.append(0x20L), PackLoans.FULL);
        CHECKS.same("append nothing to 500", packs.append(0), 500);
        CHECKS.same("load of 500 spaces", packs.load(), -600);
        CHECKS.same("buffer emptied by an error", packs.append(0), 0);
        CHECKS.same("undo after append", packs.undo(), PackLoans.NONE);
    }

    private static void good(String text, int packs, int curves, int cables, int suns, int trips, int contracts) {
        PackLoans object = new PackLoans();
        CHECKS.same("load " + text, Checks.load(object, text), packs);
        int[] due = {packs, curves, cables, suns, trips, contracts, 0, 0, 0};
        for (int what = 0; what < due.length; what++) {
            CHECKS.same(text + ": count(" + what + ")", object.count(what), due[what]);
        }
        CHECKS.same(text + ": loadError", object.loadError(), 0);
        CHECKS.same(text + ": loadStatement", object.loadStatement(), PackLoans.NONE);
        CHECKS.same(text + ": buffer", object.append(0), 0);
    }

    private static void goodTexts() {
        good("packs 1 1", 0, 0, 0, 0, 0, 0);
        good("packs 10000 10000", 0, 0, 0, 0, 0, 0);
        good("   packs1 1  ", 0, 0, 0, 0, 0, 0);
        good("packs 0001 0000000000000000000000010000", 0, 0, 0, 0, 0, 0);
        good("packs 1 1 ; pack 2 0 ; pack2 2;pack 100000 100000", 3, 0, 0, 0, 0, 0);
        good("packs 1 1;curve 0 0 0 0;curve1000 1000 1000 1000;pack 9 9 1;pack 9 9 0", 2, 2, 0, 0, 0, 0);
        good(TWO + "cable 0 1 0 1;contract 0 1 1 0 0;contract 1 0 100000 99 99", 2, 0, 1, 0, 0, 2);
        good(TWO + "cable 1 0 900 10000", 2, 0, 1, 0, 0, 0);
        good(TWO + "sun 0 0 23 1;sun 1 23 23 10000;sun 0 0 0 5", 2, 0, 0, 3, 0, 0);
        good(TWO + "trip 0 0 1;trip 1 9999 100000", 2, 0, 0, 0, 2, 0);
        PackLoans packs = Checks.loaded("packs 3 7;curve 4 5 6 7;pack 20 11;pack 33 30 0;cable 1 0 12 34;"
                + "sun 1 3 4 56;trip 1 78 9;contract 1 0 12 34 56");
        CHECKS.same("CAPACITY", packs.pack(1, 0), 33);
        CHECKS.same("CHARGE", packs.pack(1, 2), 30);
        CHECKS.same("CURVE", packs.pack(1, 4), 0);
        CHECKS.same("without CURVE", packs.pack(0, 4), PackLoans.NONE);
        CHECKS.same("LOSS", packs.cable(0, 1, 0), 12);
        CHECKS.same("RATE", packs.cable(0, 1, 1), 34);
        CHECKS.same("GAIN", packs.gainAt(1, 3), 56);
        CHECKS.same("TIME", packs.trip(0, 1), 78);
        CHECKS.same("LENDER", packs.contract(0, 0), 1);
        CHECKS.same("BORROWER", packs.contract(0, 1), 0);
    }

    private static void bad(String text, int error, int position, int statement) {
        PackLoans packs = new PackLoans();
        CHECKS.same("load " + text, Checks.load(packs, text), -100 - position);
        CHECKS.same(text + ": loadError", packs.loadError(), error);
        CHECKS.same(text + ": loadStatement", packs.loadStatement(), statement);
    }

    private static void wrongPlaces() {
        bad("", 1, 0, 0);
        bad("  ", 1, 2, 0);
        bad("pack 9 9", 1, 0, 0);
        bad("curve 1 1 1 1", 1, 0, 0);
        bad(" Packs 1 1", 1, 1, 0);
        bad("packsx 1 1", 1, 0, 0);
        bad("xacks 1 1", 1, 0, 0);
        bad("zacks 1 1", 1, 0, 0);
        bad("pac ks 1 1", 1, 0, 0);
        bad("packs", 1, 5, 0);
        bad("packs ", 1, 6, 0);
        bad("packs 1", 1, 7, 0);
        bad("packs 1 ", 1, 8, 0);
        bad("packs 1;", 1, 7, 0);
        bad("packs;", 1, 5, 0);
        bad("packs -1 1", 1, 6, 0);
        bad("packs 1 one", 1, 8, 0);
        bad("packs 1 1 1", 1, 10, 0);
        bad("packs 1 1 x", 1, 10, 0);
        bad("packs 1 1x", 1, 9, 0);
        bad("packs 1\t1", 1, 7, 0);
        bad("packs 1 1\n", 1, 9, 0);
        bad("packs 1 1" + (char) 233, 1, 9, 0);
        bad("packs 1 1;", 1, 10, 1);
        bad("packs 1 1; ", 1, 11, 1);
        bad("packs 1 1;;", 1, 10, 1);
        bad("packs 1 1;7", 1, 10, 1);
        bad("packs 1 1;packs 1 1", 1, 10, 1);
        bad("packs 1 1; pack", 1, 15, 1);
        bad("packs 1 1; packed 9 9", 1, 11, 1);
        bad("packs 1 1; sunny 9 9", 1, 11, 1);
        bad("packs 1 1; packz 9 9", 1, 11, 1);
        bad("packs 1 1; packa 9 9", 1, 11, 1);
        bad("packs 1 1; rack 9 9", 1, 11, 1);
        bad("packs 1 1; z", 1, 11, 1);
        bad("packs 1 1;pack 9 9;pack 9 9 ?", 1, 28, 2);
        bad("packs 1 1;curve 1 2 3", 1, 21, 1);
        bad("packs 1 1;curve 1 2 3;", 1, 21, 1);
        bad("packs 1 1;curve 1 2 3 4 5", 1, 24, 1);
        bad("packs 1 1;curve 1 2 3 4;pack 9 9 0 0", 1, 35, 2);
        bad(TWO + "cable 0 1 0", 1, 39, 3);
        bad(TWO + "trip 0 1;", 1, 36, 3);
        bad(TWO + "sun 0 1 1", 1, 37, 3);
        bad(JOINED + "contract 0 1 1 0", 1, 58, 4);
    }

    private static void outOfRange() {
        bad("packs 0 1", 2, 6, 0);
        bad("packs 10001 1", 2, 6, 0);
        bad("packs 1 0", 2, 8, 0);
        bad("packs 1 10001", 2, 8, 0);
        bad("packs 4294967297 1", 2, 6, 0);
        bad("packs 18446744073709551617 1", 2, 6, 0);
        bad("packs 1 99999999999999999999999999999999999x", 2, 8, 0);
        bad("packs 1 1;curve 1001 0 0 0", 2, 16, 1);
        bad("packs 1 1;curve 0 0 0 1001", 2, 22, 1);
        bad("packs 1 1;pack 1 0", 2, 15, 1);
        bad("packs 1 1;pack 100001 0", 2, 15, 1);
        bad("packs 1 1;pack 9 10", 2, 17, 1);
        bad("packs 1 1;pack 9 9 0", 2, 19, 1);
        bad("packs 1 1;curve 1 1 1 1;pack 9 9 1", 2, 33, 2);
        bad("packs 1 1;cable 0 0 0 1", 2, 16, 1);
        bad("packs 1 1;trip 0 0 1", 2, 15, 1);
        bad("packs 1 1;sun 0 5 4 1", 2, 14, 1);
        bad("packs 1 1;contract 0 1 1 0 0", 2, 19, 1);
        bad(TWO + "cable 2 0 0 1", 2, 34, 3);
        bad(TWO + "cable 0 2 0 1", 2, 36, 3);
        bad(TWO + "cable 0 1 901 1", 2, 38, 3);
        bad(TWO + "cable 0 1 0 0", 2, 40, 3);
        bad(TWO + "cable 0 1 0 10001", 2, 40, 3);
        bad(TWO + "sun 2 0 0 1", 2, 32, 3);
        bad(TWO + "sun 0 24 24 1", 2, 34, 3);
        bad(TWO + "sun 0 5 4 1", 2, 36, 3);
        bad(TWO + "sun 0 5 24 1", 2, 36, 3);
        bad(TWO + "sun 0 5 5 0", 2, 38, 3);
        bad(TWO + "sun 0 5 5 10001", 2, 38, 3);
        bad(TWO + "trip 2 0 1", 2, 33, 3);
        bad(TWO + "trip 0 10000 1", 2, 35, 3);
        bad(TWO + "trip 0 0 0", 2, 37, 3);
        bad(TWO + "trip 0 0 100001", 2, 37, 3);
        bad(JOINED + "contract 2 1 1 0 0", 2, 51, 4);
        bad(JOINED + "contract 0 2 1 0 0", 2, 53, 4);
        bad(JOINED + "contract 0 1 0 0 0", 2, 55, 4);
        bad(JOINED + "contract 0 1 100001 0 0", 2, 55, 4);
        bad(JOINED + "contract 0 1 1 100 0", 2, 57, 4);
        bad(JOINED + "contract 0 1 1 0 100", 2, 59, 4);
    }

    private static void unfitPacks() {
        bad(TWO + "cable 0 0 0 1", 3, 36, 3);
        bad(TWO + "cable 0 0", 3, 36, 3);
        bad(TWO + "cable 0 000x", 3, 36, 3);
        bad(JOINED + "cable 0 1 0 1", 3, 50, 4);
        bad(JOINED + "cable 1 0 0 1", 3, 50, 4);
        bad(TWO + "contract 0 1 1 0 0", 3, 39, 3);
        bad(JOINED + "contract 1 1 1 0 0", 3, 53, 4);
        bad(JOINED + "pack 9 9;contract 1 2 0 0 0", 3, 62, 5);
    }

    private static String times(String statement, int number) {
        StringBuilder text = new StringBuilder();
        for (int i = 0; i < number; i++) {
            text.append(statement);
        }
        return text.toString();
    }

    private static String cables(int number) {
        StringBuilder text = new StringBuilder();
        int made = 0;
        for (int pack = 0; pack < 8; pack++) {
            for (int other = pack + 1; other < 8 && made < number; other++) {
                text.append(";cable").append(pack).append(' ').append(other).append(" 0 1");
                made++;
            }
        }
        return text.toString();
    }

    private static void tooMany() {
        String eight = "packs 1 1" + times(";pack 9 9", 8);
        good(eight, 8, 0, 0, 0, 0, 0);
        bad(eight + "; pack 1 0", 4, 83, 9);
        good("packs 1 1" + times(";curve 1 1 1 1", 4), 0, 4, 0, 0, 0, 0);
        bad("packs 1 1" + times(";curve 1 1 1 1", 4) + ";curve", 4, 66, 5);
        good(eight + cables(12), 8, 0, 12, 0, 0, 0);
        bad(eight + cables(13), 4, eight.length() + 12 * 13 + 1, 21);
        bad(eight + cables(12) + ";cable 0 0", 4, eight.length() + 12 * 13 + 1, 21);
        good(TWO + "sun 0 1 1 1" + times(";sun 0 1 1 1", 11), 2, 0, 0, 12, 0, 0);
        bad(TWO + "sun 0 1 1 1" + times(";sun 0 1 1 1", 12), 4, 28 + 12 * 12, 15);
        good(TWO + "trip 0 1 1" + times(";trip 0 1 1", 15), 2, 0, 0, 0, 16, 0);
        bad(TWO + "trip 0 1 1" + times(";trip 0 1 1", 16), 4, 28 + 16 * 11, 19);
        good(JOINED + "contract 0 1 1 0 0" + times(";contract 0 1 1 0 0", 7), 2, 0, 1, 0, 0, 8);
        bad(JOINED + "contract 0 1 1 0 0" + times(";contract 0 1 1 0 0", 8), 4, 42 + 8 * 19, 12);
        bad(eight + ";packs 1 1", 1, eight.length() + 1, 9);
    }

    private static void loadingAnew() {
        PackLoans packs = Checks.loaded("packs 5 5;curve 1 2 3 4;pack 100 50 0;pack 60 40;cable 0 1 100 9;"
                + "sun 0 0 23 3;trip 0 1 2;contract 0 1 20 1 1");
        packs.setReserve(0, 7);
        packs.lend(0, 10, 2);
        packs.run(6);
        packs.saveSnapshot(0);
        CHECKS.same("load anew", Checks.load(packs, "packs 9 9;pack 30 20;pack 30 10"), 2);
        int[] due = {2, 0, 0, 0, 0, 0, 0, 0, 0};
        for (int what = 0; what < due.length; what++) {
            CHECKS.same("anew: count(" + what + ")", packs.count(what), due[what]);
        }
        CHECKS.same("anew: now", packs.now(), 0);
        CHECKS.same("anew: undo", packs.undo(), PackLoans.NONE);
        CHECKS.same("anew: reserve", packs.pack(0, 5), 0);
        CHECKS.same("anew: curve", packs.pack(0, 4), PackLoans.NONE);
        CHECKS.same("anew: points", packs.pack(0, 3), 0);
        CHECKS.same("anew: trips made", packs.pack(0, 6), 0);
        CHECKS.same("anew: gain", packs.gainAt(0, 0), 0);
        CHECKS.same("anew: cable", packs.cable(0, 1, 0), PackLoans.NONE);
        long[] totals = {30, 0, 0, 0, 30, 0};
        for (int what = 0; what < totals.length; what++) {
            CHECKS.same("anew: total(" + what + ")", packs.total(what), totals[what]);
        }
        CHECKS.same("the snapshots stay", packs.restoreSnapshot(0), 6);
        CHECKS.same("the snapshots stay", packs.count(5), 1);
    }

    private static void errorChangesNothing() {
        PackLoans packs = Checks.loaded("packs 1 1;pack 9 9;sun 0 0 23 1");
        packs.drain(0, 4);
        CHECKS.same("load with an error", Checks.load(packs, "packs 7 7;pack 5 5;pack 6 6;curve 1"), -135);
        CHECKS.same("after an error: packs", packs.count(0), 1);
        CHECKS.same("after an error: curves", packs.count(1), 0);
        CHECKS.same("after an error: charge", packs.pack(0, 2), 5);
        CHECKS.same("after an error: actions", packs.count(8), 1);
        CHECKS.same("after an error: undo", packs.undo(), 0);
        CHECKS.same("after an error: charge", packs.pack(0, 2), 9);
        CHECKS.same("after an error: append", packs.append('p'), 1);
        CHECKS.same("after an error: loadError stays", packs.loadError(), 1);
        CHECKS.same("after an error: loadStatement stays", packs.loadStatement(), 3);
        CHECKS.same("after an error: rest of the buffer", packs.load(), -100);
        CHECKS.same("a good text behind a bad one", Checks.load(packs, "packs 1 1"), 0);
        CHECKS.same("a good text behind a bad one", packs.loadError(), 0);
        CHECKS.same("a good text behind a bad one", packs.loadStatement(), PackLoans.NONE);
    }
}
