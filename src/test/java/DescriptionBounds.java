/** Section 1 and promises 1 to 5: each sentence that names a boundary, on both sides of it. */
final class DescriptionBounds {
    private static final Bounds BOUNDS = Bounds.ALL;
    private static final String PACKS = "packs 1 1;pack 50 9;pack 50 9;";
    private static final String CABLE = PACKS + "cable 0 1 0 1;";
    private static final String EIGHT = "packs 1 1" + times(";pack 9 9", 8);
    private static final char[] NO_SPACES = {1, 9, 10, 13, 31, 33, 127, 128, 160, 255};

    private DescriptionBounds() {
    }

    static void check() {
        statements();
        packsStatement();
        curves();
        packs();
        cables();
        suns();
        trips();
        contracts();
        words();
        numbers();
        spaces();
        firstError();
        places();
        tooEarly();
        rangesAndPacks();
        tooMany();
        newObject();
        appendedBytes();
        fullBuffer();
        loadBeginsAnew();
        loadRefused();
        resultsOfLoad();
    }

    private static void says(String part, String words) {
        BOUNDS.says(part, words);
    }

    private static String times(String statement, int number) {
        return statement.repeat(number);
    }

    private static PackLoans good(String text) {
        PackLoans x = new PackLoans();
        int answer = Checks.load(x, text);
        BOUNDS.yes("load of " + text + " answered " + answer + ", due is no error", answer >= 0);
        BOUNDS.same(text + ", loadError", x.loadError(), 0);
        BOUNDS.same(text + ", loadStatement", x.loadStatement(), PackLoans.NONE);
        BOUNDS.same(text + ", the number of packs", answer, x.count(0));
        return x;
    }

    /** The sign ^ marks the position of the error and is no part of the text. */
    private static void bad(int error, int statement, String marked) {
        int position = marked.indexOf('^');
        String text = marked.substring(0, position) + marked.substring(position + 1);
        PackLoans x = new PackLoans();
        BOUNDS.same("load of " + marked, Checks.load(x, text), -100 - position);
        BOUNDS.same(marked + ", loadError", x.loadError(), error);
        BOUNDS.same(marked + ", loadStatement", x.loadStatement(), statement);
        BOUNDS.same(marked + ", no packs", x.count(0), 0);
    }

    /** A number at this place can be low and high, not one less and not one more. */
    private static void range(int statement, String before, int low, int high, String after) {
        good(before + low + after);
        good(before + high + after);
        good(before + "00000000000000000000" + high + after);
        if (low > 0) {
            bad(2, statement, before + "^" + (low - 1) + after);
            bad(2, statement, before + "^000" + (low - 1) + after);
        }
        bad(1, statement, before + "^-" + low + after);
        bad(2, statement, before + "^" + (high + 1) + after);
        bad(2, statement, before + "^" + high + "0" + (high > 0 ? "" : "1") + after);
        // These wrap around to numbers in the range, in 32 and in 64 bits.
        bad(2, statement, before + "^" + (4294967296L + high) + after);
        bad(2, statement, before + "^" + "18446744073709551616".substring(0, 15)
                + String.format("%05d", 51616 + high % 40000) + after);
        bad(2, statement, before + "^" + times("9", 60) + after);
    }

    private static void statements() {
        says("Section 1", "one or more statements");
        bad(1, 0, "^");
        bad(1, 0, "    ^");
        BOUNDS.same("one statement", good("packs 1 1").count(0), 0);
        BOUNDS.same("two statements", good("packs 1 1;pack 9 9").count(0), 1);
        says("Section 1", "separated by semicolons");
        bad(1, 0, "^;packs 1 1");
        bad(1, 0, "^;");
        bad(1, 0, "packs 1 1 ^pack 9 9");
        bad(1, 1, "packs 1 1;pack 9 9 ^pack 9 9");
        bad(1, 0, "packs 1 1^,pack 9 9");
        bad(1, 0, "packs 1 1^:pack 9 9");
        bad(1, 0, "packs 1 1^<pack 9 9");
        bad(1, 1, "packs 1 1;^");
        bad(1, 1, "packs 1 1;  ^");
        bad(1, 1, "packs 1 1;^;pack 9 9");
        bad(1, 2, "packs 1 1;pack 9 9;^");
    }

    private static void packsStatement() {
        says("Section 1", "the first one is packs FADE WORTH");
        for (String other : new String[] {"curve 1 1 1 1", "pack 9 9", "cable 0 1 0 1", "sun 0 0 0 1", "trip 0 0 1",
            "contract 0 1 1 0 0"}) {
            bad(1, 0, "^" + other);
            bad(1, 0, "  ^" + other + ";packs 1 1");
        }
        good("packs 1 1");
        says("Section 1", "packs FADE WORTH - 1 to 10000 each");
        range(0, "packs ", 1, 10000, " 1");
        range(0, "packs 1 ", 1, 10000, "");
        says("Section 1", "it stands only there");
        bad(1, 1, "packs 1 1;^packs 1 1");
        bad(1, 1, "packs 1 1;^packs");
        bad(1, 2, "packs 1 1;pack 9 9; ^packs 1 1");
        says("Section 1", "the others may come in any order");
        PackLoans x = good("packs 1 1;pack 9 9;trip 0 1 1;curve 1 1 1 1;pack 9 9 0;sun 1 0 0 1;pack 9 9;cable 2 0 0 1;"
                + "curve 2 2 2 2;contract 0 2 1 0 0;sun 0 1 1 1;cable 0 1 0 1;contract 1 0 1 0 0;trip 2 0 1;"
                + "pack 9 9 1");
        int[] due = {4, 2, 2, 2, 2, 2};
        for (int what = 0; what < due.length; what++) {
            BOUNDS.same("count(" + what + ")", x.count(what), due[what]);
        }
    }

    /** As many statements of a word as can be, and one too many, which is error 4 at its first byte. */
    private static PackLoans most(int what, int statements, String before, String... all) {
        StringBuilder text = new StringBuilder(before);
        for (int i = 0; i < all.length - 1; i++) {
            text.append(';').append(all[i]);
        }
        PackLoans x = good(text.toString());
        BOUNDS.same("count(" + what + ") of as many as can be", x.count(what), all.length - 1);
        bad(4, statements + all.length - 1, text + ";^" + all[all.length - 1]);
        bad(4, statements + all.length - 1, text + ";  ^" + all[all.length - 1] + ";packs");
        return x;
    }

    private static String[] same(String statement, int number) {
        String[] all = new String[number];
        java.util.Arrays.fill(all, statement);
        return all;
    }

    private static void curves() {
        says("Section 1", "curve W0 W1 W2 W3 - 0 to 1000 each");
        range(1, "packs 1 1;curve ", 0, 1000, " 1 1 1");
        range(1, "packs 1 1;curve 1 ", 0, 1000, " 1 1");
        range(1, "packs 1 1;curve 1 1 ", 0, 1000, " 1");
        range(1, "packs 1 1;curve 1 1 1 ", 0, 1000, "");
        says("Section 1", "curve W0 W1 W2 W3 - 0 to 1000 each; at most 4");
        most(1, 1, "packs 1 1", same("curve 1 1 1 1", 5));
        says("Section 1", "at most 4, numbered from 0");
        // Each pack is in another quarter, by another curve: 4 of charge, worn by 1.
        PackLoans x = good("packs 9 9;curve 10 11 12 13;curve 20 21 22 23;curve 30 31 32 33;curve 40 41 42 43;"
                + "pack 40 4 0;pack 40 14 0;pack 40 24 0;pack 40 34 0;pack 40 4 3;pack 40 14 2;pack 40 24 1;"
                + "pack 40 40 3");
        int[] curve = {0, 0, 0, 0, 3, 2, 1, 3};
        int[] points = {10, 11, 12, 13, 40, 31, 22, 43};
        for (int pack = 0; pack < 8; pack++) {
            x.drain(pack, 1);
            BOUNDS.same("curve of " + pack, x.pack(pack, 4), curve[pack]);
            BOUNDS.same("points of " + pack, x.pack(pack, 3), points[pack]);
        }
    }

    private static void packs() {
        says("Section 1", "pack CAPACITY CHARGE [ CURVE ] - 2 to 100000");
        range(1, "packs 1 1;pack ", 2, 100000, " 0");
        says("Section 1", "0 to CAPACITY");
        range(1, "packs 1 1;pack 2 ", 0, 2, "");
        range(1, "packs 1 1;pack 77 ", 0, 77, "");
        range(1, "packs 1 1;pack 100000 ", 0, 100000, "");
        says("Section 1", "a curve that was described before (");
        bad(2, 1, "packs 1 1;pack 9 9 ^0");
        bad(2, 1, "packs 1 1;pack 9 9 ^0;curve 1 1 1 1");
        range(2, "packs 1 1;curve 1 1 1 1;pack 9 9 ", 0, 0, "");
        range(5, "packs 1 1" + times(";curve 1 1 1 1", 4) + ";pack 9 9 ", 0, 3, "");
        bad(1, 1, "packs 1 1;pack 9 9 ^x");
        bad(1, 2, "packs 1 1;curve 1 1 1 1;pack 9 9 0 ^0");
        says("Section 1", "without it, the pack has the curve NONE, whose W are all 1");
        PackLoans x = good("packs 9 9;curve 5 5 5 5;pack 40 9;pack 40 19;pack 40 29;pack 40 40");
        for (int pack = 0; pack < 4; pack++) {
            x.drain(pack, 7);
            BOUNDS.same("curve", x.pack(pack, 4), PackLoans.NONE);
            BOUNDS.same("points of 7 in the quarter " + pack, x.pack(pack, 3), 7);
        }
        says("Section 1", "whose W are all 1); at most 8, numbered from 0");
        PackLoans y = most(0, 1, "packs 1 1", "pack 10 1", "pack 11 1", "pack 12 1", "pack 13 1", "pack 14 1",
                "pack 15 1", "pack 16 1", "pack 17 1", "pack 18 1");
        BOUNDS.same("the first", y.pack(0, 0), 10);
        BOUNDS.same("the last", y.pack(7, 0), 17);
    }

    private static String[] cables(int number) {
        String[] all = new String[number];
        int made = 0;
        for (int pack = 0; pack < 8; pack++) {
            for (int other = pack + 1; other < 8 && made < number; other++) {
                all[made] = "cable" + other + " " + pack + " 9 1";
                made++;
            }
        }
        return all;
    }

    private static void cables() {
        says("Section 1", "cable PACK PACK LOSS RATE - packs that were described before");
        bad(2, 1, "packs 1 1;cable ^0 1 0 1");
        bad(2, 2, "packs 1 1;pack 9 9;cable ^1 0 0 1");
        bad(2, 2, "packs 1 1;pack 9 9;cable 0 ^1 0 1;pack 9 9");
        good(PACKS + "cable 1 0 0 1");
        bad(2, 3, PACKS + "cable ^2 0 0 1");
        bad(2, 3, PACKS + "cable 1 ^2 0 1");
        good(EIGHT + ";cable 7 0 0 1");
        good(EIGHT + ";cable 0 7 0 1");
        bad(2, 9, EIGHT + ";cable ^8 0 0 1");
        bad(2, 9, EIGHT + ";cable 0 ^8 0 1");
        says("Section 1", "cable PACK PACK LOSS RATE - packs that were described before, 0 to 900");
        range(3, PACKS + "cable 0 1 ", 0, 900, " 1");
        says("Section 1", "0 to 900, 1 to 10000");
        range(3, PACKS + "cable 0 1 0 ", 1, 10000, "");
        says("Section 1", "0 to 900, 1 to 10000; at most 12");
        most(2, 9, EIGHT, cables(13));
    }

    private static void suns() {
        says("Section 1", "sun PACK FROM TO GAIN - a pack that was described before");
        bad(2, 1, "packs 1 1;sun ^0 0 0 1;pack 9 9");
        range(3, PACKS + "sun ", 0, 1, " 0 0 1");
        range(9, EIGHT + ";sun ", 0, 7, " 0 0 1");
        says("Section 1", "0 to 23");
        range(3, PACKS + "sun 0 ", 0, 23, " 23 1");
        says("Section 1", "FROM to 23");
        range(3, PACKS + "sun 0 0 ", 0, 23, " 1");
        range(3, PACKS + "sun 0 9 ", 9, 23, " 1");
        range(3, PACKS + "sun 0 23 ", 23, 23, " 1");
        says("Section 1", "FROM to 23, 1 to 10000");
        range(3, PACKS + "sun 0 0 0 ", 1, 10000, "");
        says("Section 1", "FROM to 23, 1 to 10000; at most 12");
        PackLoans x = most(3, 4, PACKS + "pack 9 9", same("sun 1 0 0 9", 13));
        BOUNDS.same("all 12", x.gainAt(1, 0), 12 * 9);
    }

    private static void trips() {
        says("Section 1", "trip PACK TIME NEED - a pack that was described before");
        bad(2, 1, "packs 1 1;trip ^0 0 1;pack 9 9");
        range(3, PACKS + "trip ", 0, 1, " 0 1");
        range(9, EIGHT + ";trip ", 0, 7, " 0 1");
        says("Section 1", "0 to 9999");
        range(3, PACKS + "trip 0 ", 0, 9999, " 1");
        says("Section 1", "0 to 9999, 1 to 100000");
        range(3, PACKS + "trip 0 0 ", 1, 100000, "");
        says("Section 1", "at most 16, numbered from 0");
        String[] all = new String[17];
        for (int i = 0; i < all.length; i++) {
            all[i] = "trip 0 " + (i + 3) + " 1";
        }
        PackLoans x = most(4, 4, PACKS + "pack 9 9", all);
        BOUNDS.same("the first", x.trip(0, 1), 3);
        BOUNDS.same("the last", x.trip(15, 1), 18);
    }

    private static void contracts() {
        says("Section 1", "contract LENDER BORROWER LIMIT NOTICE GRACE - packs that were described before");
        bad(2, 1, "packs 1 1;contract ^0 1 1 0 0");
        bad(2, 2, "packs 1 1;pack 9 9;contract 0 ^1 1 0 0;pack 9 9");
        bad(2, 4, CABLE + "contract ^2 0 1 0 0");
        bad(2, 4, CABLE + "contract 1 ^2 1 0 0");
        String star = EIGHT + ";cable 0 1 0 1;cable 0 7 0 1;";
        good(star + "contract 7 0 1 0 0");
        good(star + "contract 0 7 1 0 0");
        bad(2, 11, star + "contract ^8 0 1 0 0");
        bad(2, 11, star + "contract 0 ^8 1 0 0");
        says("Section 1", "packs that were described before, 1 to 100000");
        range(4, CABLE + "contract 0 1 ", 1, 100000, " 0 0");
        says("Section 1", "1 to 100000, 0 to 99");
        range(4, CABLE + "contract 0 1 1 ", 0, 99, " 0");
        says("Section 1", "0 to 99, 0 to 99");
        range(4, CABLE + "contract 0 1 1 0 ", 0, 99, "");
        says("Section 1", "0 to 99, 0 to 99; at most 8, numbered from 0");
        String[] all = new String[9];
        for (int i = 0; i < all.length; i++) {
            all[i] = "contract 0 1 " + (i + 5) + " 0 0";
        }
        PackLoans x = most(5, 5, CABLE + "pack 9 9", all);
        BOUNDS.same("the first", x.contract(0, 2), 5);
        BOUNDS.same("the last", x.contract(7, 2), 12);
    }

    private static void words() {
        says("Section 1", "A word is a maximal run of lower-case letters");
        for (String word : new String[] {"pack", "packsa", "packsz", "packss", "apacks", "zpacks", "pac", "p", "packt",
            "oacks", "qacks", "curve", "z"}) {
            bad(1, 0, "^" + word + " 1 1");
        }
        for (String word : new String[] {"packa", "packz", "curves", "curv", "cables", "cabl", "suns", "su", "trips",
            "tri", "contracts", "contrac", "acable", "zsun", "tripsun", "x"}) {
            bad(1, 1, "packs 1 1;^" + word + " 0 1 1 1 1");
        }
        bad(1, 0, "^Packs 1 1");
        bad(1, 0, "^PACKS 1 1");
        bad(1, 0, "^pac ks 1 1");
        // The bytes next to a and z are no letters.
        bad(1, 0, "^`packs 1 1");
        bad(1, 0, "packs^` 1 1");
        bad(1, 0, "packs^{ 1 1");
        bad(1, 0, "packs^S 1 1");
        bad(1, 0, "packs 1 1^x");
        bad(1, 0, "packs 1^x 1");
    }

    private static void numbers() {
        says("Section 1", "a number a maximal run of digits");
        bad(2, 0, "packs 1 ^10001");
        bad(1, 0, "packs 1234^");
        bad(1, 0, "packs 1 0001 ^1");
        // The bytes next to 0 and 9 are no digits.
        bad(1, 0, "packs ^/1 1");
        bad(1, 0, "packs 1^/1 1");
        bad(1, 0, "packs 1^:1 1");
        bad(1, 0, "packs 1 1^/");
        bad(1, 0, "packs 1 1^:");
        bad(1, 0, "packs 1^.0 1");
        bad(1, 0, "packs ^+1 1");
        bad(1, 0, "packs ^-1 1");
        bad(2, 0, "packs ^" + times("0", 300) + " 1");
        good("packs " + times("0", 300) + "1 1");
    }

    private static void spaces() {
        says("Section 1", "Spaces (byte 32) may stand before and after words, numbers and semicolons");
        PackLoans x = good("   packs   1   1   ;   pack   9   8   ;   curve   1   1   1   1   ");
        BOUNDS.same("count(0)", x.count(0), 1);
        BOUNDS.same("charge", x.pack(0, 2), 8);
        for (char sign : NO_SPACES) {
            bad(1, 0, "^" + sign + "packs 1 1");
            bad(1, 0, "packs^" + sign + "1 1");
            bad(1, 0, "packs 1^" + sign + "1");
            bad(1, 0, "packs 1 1^" + sign);
            bad(1, 0, "packs 1 1^" + sign + ";pack 9 9");
            bad(1, 1, "packs 1 1;^" + sign + "pack 9 9");
        }
        says("Section 1", "they are required only between two numbers");
        good("packs1 1;curve1 1 1 1;pack9 9;pack9 9 0;cable0 1 0 1;sun0 0 0 1;trip0 0 1;contract0 1 1 0 0");
        bad(1, 0, "packs11^");
        bad(1, 1, "packs1 1;pack99^;pack9 9");
        bad(1, 0, "packs1^;1");
    }

    private static void firstError() {
        says("Section 1", "The text is read from left to right; the first error ends it");
        bad(2, 0, "packs ^0 0;x");
        bad(2, 0, "packs 1 ^0;;");
        bad(1, 1, "packs 1 1;^x;packs 0 0");
        bad(2, 1, "packs 1 1;pack ^1 2 9 9");
        bad(3, 3, PACKS + "cable 0 ^0 901 0");
        bad(3, 3, PACKS + "contract 1 ^1 0 100 100 100");
        bad(2, 3, PACKS + "contract ^2 2 0 100 100");
        bad(4, 9, EIGHT + ";^pack 1 2 3 4");
        bad(4, 9, EIGHT + ";^pack");
        bad(2, 1, "packs 1 1;pack 9 ^10" + times(";pack 9 9", 9));
        bad(1, 0, "packs ^x 0");
    }

    private static void places() {
        says("Section 1", "Error 1: a byte, word or number cannot stand at its place (position of its first byte)");
        bad(1, 0, "packs ^? 1");
        bad(1, 0, "packs 1 1 ^?");
        bad(1, 1, "packs 1 1; ^?");
        bad(1, 0, "packs ^one 1");
        bad(1, 0, "packs 1   ^packs");
        bad(1, 0, "packs 1 1   ^packs");
        bad(1, 1, "packs 1 1;   ^pax");
        bad(1, 0, "   ^777 1 1");
        bad(1, 1, "packs 1 1;  ^777");
        bad(1, 0, "packs 1 1  ^777");
        bad(1, 1, "packs 1 1;curve 1 1 1 1  ^0001");
        bad(1, 0, "packs^;pack 9 9");
        bad(1, 0, "packs 1^;pack 9 9");
    }

    private static void tooEarly() {
        says("Section 1", "or the text ends too early (position: its length)");
        String[] statements = {"curve 1 1 1 1", "pack 9 9", "cable 0 1 0 1", "sun 0 0 0 1", "trip 0 0 1",
            "contract 1 0 1 0 0"};
        for (String statement : statements) {
            String before = statement.startsWith("cab") ? PACKS : CABLE;
            int number = before == PACKS ? 3 : 4;
            for (int end = statement.indexOf(' '); end >= 0; end = statement.indexOf(' ', end + 1)) {
                String part = before + statement.substring(0, end);
                bad(1, number, part + "^");
                bad(1, number, part + "   ^");
                bad(1, number, part + " ^;pack 9 9");
            }
            good(before + statement);
        }
        bad(1, 0, "packs^");
        bad(1, 0, "packs 1^");
        bad(1, 0, "packs 1" + times(" ", 492) + "^");
        bad(1, 0, "packs 1" + times(" ", 493) + "^");
        bad(1, 1, "packs 1 1;" + times(" ", 490) + "^");
        good("packs 1 1" + times(" ", 491));
    }

    private static void rangesAndPacks() {
        says("Section 1", "Error 2: a number is out of its range (position of its first digit)");
        bad(2, 0, "packs    ^00010001 1");
        bad(2, 0, "packs^0 1");
        bad(2, 1, "packs 1 1;pack  2  ^3");
        says("Section 1", "Error 3: the second PACK of a cable is the first one");
        bad(3, 3, PACKS + "cable 0 ^0 0 1");
        bad(3, 3, PACKS + "cable 1  ^01 0 1");
        bad(3, 4, CABLE + "cable 1 ^1 0 1");
        says("Section 1", "or there is a cable between both already");
        bad(3, 4, CABLE + "cable 0 ^1 0 1");
        bad(3, 4, CABLE + "cable 1 ^0 0 1");
        bad(3, 4, CABLE + "cable 1 ^0");
        good(CABLE + "pack 9 9;cable 0 2 0 1;cable 2 1 0 1");
        says("Section 1", "BORROWER is LENDER");
        bad(3, 4, CABLE + "contract 0 ^0 1 0 0");
        bad(3, 4, CABLE + "contract 1 ^1 1 0 0");
        says("Section 1", "or there is no cable between them (position of its first digit)");
        bad(3, 3, PACKS + "contract 0 ^1 1 0 0");
        bad(3, 3, PACKS + "contract 0  ^001 1 0 0;cable 0 1 0 1");
        bad(3, 5, CABLE + "pack 9 9;contract 1 ^2 1 0 0");
        good(CABLE + "contract 0 1 1 0 0;contract 1 0 1 0 0;contract 0 1 1 0 0");
    }

    private static void tooMany() {
        says("Section 1", "Error 4: one statement of its word too many (position of the statement's first byte)");
        bad(4, 9, EIGHT + "  ;    ^pack 9 9");
        bad(4, 5, "packs 1 1" + times(";curve1 1 1 1", 4) + ";   ^curve");
        good("packs 1 1" + times(";curve1 1 1 1", 4) + times(";pack 9 9", 8));
        says("Section 1", "Of several errors at one place the one with the smaller number counts");
        bad(1, 1, "packs 1 1;^packs 1 1");
        bad(2, 3, PACKS + "cable 0 ^2 0 1");
        bad(2, 3, PACKS + "contract 0 ^2 1 0 0");
        bad(2, 3, PACKS + "contract 0 ^99999999999 1 0 0");
    }

    private static void newObject() {
        says("Section 1", "A new object is as by the text \"packs 100 100\"");
        BOUNDS.yes("all that can be asked",
                Checks.digest(new PackLoans()).equals(Checks.digest(good("packs 100 100"))));
        says("Promise 1", "with an empty input buffer and no snapshots, at the time 0");
        BOUNDS.same("append(0)", new PackLoans().append(0), 0);
        BOUNDS.same("append of a byte", new PackLoans().append(112), 1);
        BOUNDS.same("load", new PackLoans().load(), -100);
        BOUNDS.same("restoreSnapshot(0)", new PackLoans().restoreSnapshot(0), PackLoans.NONE);
        BOUNDS.same("restoreSnapshot(1)", new PackLoans().restoreSnapshot(1), PackLoans.NONE);
        BOUNDS.same("now", new PackLoans().now(), 0);
        PackLoans used = good("packs 1 1;pack 9 9");
        used.run(3);
        used.saveSnapshot(0);
        used.append(112);
        BOUNDS.same("another object's buffer", new PackLoans().append(0), 0);
        BOUNDS.same("another object's snapshot", new PackLoans().restoreSnapshot(0), PackLoans.NONE);
    }

    private static void appendedBytes() {
        says("Promise 2", "the 8 bytes of a number, the most significant byte first");
        PackLoans x = new PackLoans();
        BOUNDS.same("packs1 1", x.append(0x7061636b73312031L), 8);
        BOUNDS.same("that text", x.load(), 0);
        BOUNDS.same("1 1skcap", x.append(0x312031736b636170L), 8);
        BOUNDS.same("that text", x.load(), -100);
        BOUNDS.same("the largest bytes", x.append(-1), 8);
        BOUNDS.same("the largest number", x.append(Long.MAX_VALUE), 16);
        BOUNDS.same("the smallest number", x.append(Long.MIN_VALUE), 17);
        says("Promise 2", "where bytes that are 0 are left out");
        PackLoans y = new PackLoans();
        BOUNDS.same("all are 0", y.append(0), 0);
        for (int i = 0; i < 8; i++) {
            BOUNDS.same("all but byte " + i, y.append(1L << 8 * i), 1 + 2 * i);
            BOUNDS.same("all but byte " + i, y.append(128L << 8 * i), 2 + 2 * i);
        }
        BOUNDS.same("all but byte 0 and 7", y.append(0xff00000000000001L), 18);
        PackLoans z = new PackLoans();
        z.append(0x0070006100630000L);
        z.append(0x6b00730000310020L);
        BOUNDS.same("zeros between", z.append(0x3100000000000000L), 8);
        BOUNDS.same("that text", z.load(), 0);
    }

    private static PackLoans holding(int length) {
        PackLoans x = new PackLoans();
        Checks.append(x, "packs 1 1" + times(" ", length - 9));
        return x;
    }

    private static void fullBuffer() {
        says("Promise 2", "FULL if it would exceed 500");
        BOUNDS.same("8 to 491", holding(491).append(0x2020202020202020L), 499);
        BOUNDS.same("8 to 492", holding(492).append(0x2020202020202020L), 500);
        BOUNDS.same("8 to 493", holding(493).append(0x2020202020202020L), PackLoans.FULL);
        BOUNDS.same("7 to 493", holding(493).append(0x2020200020202020L), 500);
        BOUNDS.same("1 to 499", holding(499).append(0x20), 500);
        BOUNDS.same("2 to 499", holding(499).append(0x2020), PackLoans.FULL);
        BOUNDS.same("1 to 500", holding(500).append(0x20), PackLoans.FULL);
        BOUNDS.same("0 to 500", holding(500).append(0), 500);
        PackLoans x = holding(498);
        x.append(0x787878);
        BOUNDS.same("nothing of what was too much", x.append(0), 498);
        BOUNDS.same("room for 2 more", x.append(0x2020), 500);
        BOUNDS.same("the text is good", x.load(), 0);
        BOUNDS.same("room for 8 again", x.append(-1), 8);
        BOUNDS.refused(() -> holding(500), "append to a full buffer", y -> y.append(1L << 63), PackLoans.FULL);
    }

    private static PackLoans busy() {
        PackLoans x = Checks.loaded("packs 2 3;curve 4 5 6 7;pack 90 80 0;pack 70 10;cable 0 1 100 9;sun 1 0 23 1;"
                + "trip 0 1 2;contract 0 1 50 1 1");
        x.saveSnapshot(0);
        x.setReserve(0, 7);
        x.lend(0, 20, 9);
        x.run(3);
        x.saveSnapshot(1);
        x.drain(1, 5);
        return x;
    }

    private static void loadBeginsAnew() {
        String text = "packs 1 1;pack 40 30;pack 30 20;pack 20 10;cable 1 2 5 6;trip 2 5 5";
        says("Promise 3", "and begins anew");
        PackLoans x = busy();
        BOUNDS.same("load", Checks.load(x, text), 3);
        BOUNDS.yes("as a new object with that text", Checks.digest(x).equals(Checks.digest(good(text))));
        PackLoans less = good(text);
        BOUNDS.same("load of less", Checks.load(less, "packs 1 1;pack 9 8"), 1);
        BOUNDS.yes("nothing is left of the packs that were more",
                Checks.digest(less).equals(Checks.digest(good("packs 1 1;pack 9 8"))));
        says("Promise 3", "nothing can be taken back");
        BOUNDS.same("count(8)", x.count(8), 0);
        BOUNDS.same("undo", x.undo(), PackLoans.NONE);
        BOUNDS.same("count(0)", x.count(0), 3);
        says("Promise 3", "The buffer is emptied, also on an error");
        BOUNDS.same("append behind a good text", x.append(112), 1);
        BOUNDS.same("load with an error", x.load(), -100);
        BOUNDS.same("append behind a bad text", x.append(112), 1);
        says("Promise 3", "The snapshots stay");
        PackLoans y = busy();
        Checks.load(y, text);
        BOUNDS.same("the later one", y.restoreSnapshot(1), 3);
        BOUNDS.same("its loan", y.count(6), 1);
        Checks.load(y, "packs");
        BOUNDS.same("the earlier one", y.restoreSnapshot(0), 0);
        BOUNDS.same("its packs", y.count(0), 2);
    }

    private static void loadRefused() {
        says("Promise 3", "-100 minus the position of the error if the text has one");
        BOUNDS.same("at 0", Checks.load(new PackLoans(), "x"), -100);
        BOUNDS.same("at 1", Checks.load(new PackLoans(), " x"), -101);
        BOUNDS.same("at 499", Checks.load(new PackLoans(), times(" ", 499) + "x"), -599);
        BOUNDS.same("at 500", Checks.load(new PackLoans(), times(" ", 500)), -600);
        says("Promise 3", "and then nothing but the buffer and the results of loadError() and loadStatement() changes");
        for (String text : new String[] {"", "x", "packs 9 0", "packs 9 9;pack 5 5;pack 5 5;pack 5 5;cable 0 1 0 "
                + "1;curve",
            EIGHT + ";pack 9 9", PACKS + "trip 0 1 1;trip 1 2 2;sun 0 0 23 5;cable 0 1 3 4;contract 0 1 5 5 100"}) {
            PackLoans x = busy();
            BOUNDS.yes("an error in " + text, Checks.load(x, text) <= -100);
            BOUNDS.same("the buffer", x.append(0), 0);
            BOUNDS.yes("the rest", Checks.digest(x).equals(Checks.digest(busy())));
            PackLoans y = busy();
            Checks.load(y, text);
            PackLoans other = busy();
            BOUNDS.same("undo", y.undo(), other.undo());
            BOUNDS.yes("what was before the action", Checks.digest(y).equals(Checks.digest(other)));
            BOUNDS.same("a snapshot", y.restoreSnapshot(0), 0);
            BOUNDS.same("a snapshot", y.restoreSnapshot(1), 3);
        }
    }

    private static void resultsOfLoad() {
        says("Promise 4", "0 if the text had no error or there was no such call");
        PackLoans x = new PackLoans();
        BOUNDS.same("no call", x.loadError(), 0);
        x.append(112);
        BOUNDS.same("no call but append", x.loadError(), 0);
        x.load();
        BOUNDS.same("an error", x.loadError(), 1);
        Checks.load(x, "packs 1 1");
        BOUNDS.same("no error", x.loadError(), 0);
        says("Promise 4", "Returns the kind of the error of the latest call of load()");
        x.load();
        BOUNDS.same("no error, then an empty text", x.loadError(), 1);
        Checks.load(x, "packs 1 0");
        BOUNDS.same("then a number out of range", x.loadError(), 2);
        says("Promise 4", "Returns 1 to 4 (section 1)");
        String[] texts = {"packs", "packs 0 0", PACKS + "cable 0 0 0 1", EIGHT + ";pack"};
        for (int i = 0; i < texts.length; i++) {
            Checks.load(x, texts[i]);
            BOUNDS.same("error of " + texts[i], x.loadError(), i + 1);
        }
        says("Promise 5", "NONE if the text had no error or there was no such call");
        PackLoans y = new PackLoans();
        BOUNDS.same("no call", y.loadStatement(), PackLoans.NONE);
        y.append(112);
        BOUNDS.same("no call but append", y.loadStatement(), PackLoans.NONE);
        y.load();
        BOUNDS.same("an error", y.loadStatement(), 0);
        Checks.load(y, "packs 1 1;pack 9 9");
        BOUNDS.same("no error", y.loadStatement(), PackLoans.NONE);
        says("Promise 5", "in which statement the latest call of load() found its error");
        Checks.load(y, PACKS + "x");
        BOUNDS.same("no error, then one in statement 3", y.loadStatement(), 3);
        Checks.load(y, "packs 1 1;x");
        BOUNDS.same("then one in statement 1", y.loadStatement(), 1);
        y.load();
        BOUNDS.same("then an empty text", y.loadStatement(), 0);
        says("Promise 5", "A byte behind a statement that is no semicolon belongs to that statement");
        bad(1, 0, "packs 1 1^x;pack 9 9");
        bad(1, 0, "packs 1 1  ^pack 9 9");
        bad(1, 1, "packs 1 1;pack 9 9^?;pack 9 9");
        says("Promise 5", "what follows a semicolon belongs to the next one");
        bad(1, 1, "packs 1 1;^?");
        bad(1, 1, "packs 1 1;^");
        bad(1, 1, "packs 1 1;^;");
        bad(1, 2, "packs 1 1;pack 9 9; ^x");
        says("Promise 5", "Returns the index of the statement, from 0");
        bad(1, 0, "^");
        bad(2, 0, "packs 1 ^0");
        bad(2, 40, "packs1 1;pack9 9" + times(";trip0 0 1", 16) + times(";sun0 0 0 1", 12) + times(";pack9 9", 7)
                + times(";curve0 0 0 0", 3) + ";curve ^1001 0 0 0");
    }
}
