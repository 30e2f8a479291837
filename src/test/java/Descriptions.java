/** Made-up descriptions, good ones and spoilt ones, of at most 500 bytes. */
final class Descriptions {
    interface Chooser {
        int between(int low, int high);
    }

    private static final String[] PIECES = {";", " ", "packs", "curve", "pack", "cable", "sun", "trip", "contract",
        "0", "1", "7", "24", "1001", "10001", "100001", "99999999999999999999", "X", "a", "\t", "\u00e9"};

    private final Chooser chooser;
    private final StringBuilder text = new StringBuilder();
    private int packs;
    private int curves;
    private int contracts;
    private final boolean[][] joined = new boolean[8][8];

    private Descriptions(Chooser chooser) {
        this.chooser = chooser;
    }

    private int between(int low, int high) {
        return chooser.between(low, high);
    }

    private void add(String word, int... numbers) {
        StringBuilder statement = new StringBuilder(text.length() == 0 ? "" : ";").append(word);
        for (int number : numbers) {
            statement.append(' ').append(number);
        }
        if (text.length() + statement.length() <= 500) {
            text.append(statement);
        }
    }

    /** Small numbers often, the largest ones at times: both are where rounding and limits show. */
    private int upTo(int low, int small, int most) {
        int kind = between(0, 9);
        return kind < 7 ? between(low, small) : kind < 9 ? between(low, most) : kind == 9 ? most : low;
    }

    private void addCurve() {
        if (curves < 4) {
            add("curve", upTo(0, 5, 1000), upTo(0, 5, 1000), upTo(0, 5, 1000), upTo(0, 5, 1000));
            curves++;
        }
    }

    private void addPack(int size) {
        if (packs == 8) {
            return;
        }
        int capacity = between(2, size);
        int charge = between(0, capacity);
        if (curves > 0 && between(0, 2) > 0) {
            add("pack", capacity, charge, between(0, curves - 1));
        } else {
            add("pack", capacity, charge);
        }
        packs++;
    }

    private void addCable(int size) {
        int one = between(0, packs - 1);
        int two = between(0, packs - 1);
        if (one == two || joined[one][two] || text.length() > 440) {
            return;
        }
        add("cable", one, two, between(0, 1) * between(0, 900), upTo(1, Math.min(10000, 1 + size / 5), 10000));
        joined[one][two] = true;
        joined[two][one] = true;
        int number = between(1, 2);
        for (int i = 0; i < number && contracts < 8 && text.length() <= 460; i++) {
            boolean turned = between(0, 2) == 0;
            add("contract", turned ? two : one, turned ? one : two, upTo(1, size, 100000), upTo(0, 9, 99),
                    upTo(0, 9, 99));
            contracts++;
        }
    }

    private static int[] sizes() {
        return new int[] {20, 300, 5000, 100000};
    }

    static String good(Chooser chooser) {
        Descriptions made = new Descriptions(chooser);
        int size = sizes()[made.between(0, 3)];
        made.add("packs", made.upTo(1, 20, 10000), made.upTo(1, 100, 10000));
        int steps = made.between(0, 3);
        for (int i = 0; i < steps; i++) {
            made.addCurve();
        }
        steps = made.between(2, 8);
        for (int i = 0; i < steps; i++) {
            made.addPack(size);
        }
        steps = made.between(2, 9);
        for (int i = 0; i < steps; i++) {
            made.addCable(size);
        }
        steps = made.between(0, 4);
        for (int i = 0; i < steps; i++) {
            int from = made.between(0, 23);
            made.add("sun", made.between(0, made.packs - 1), from, made.between(from, 23),
                    made.upTo(1, 1 + size / 50, 10000));
        }
        steps = made.between(0, 6);
        for (int i = 0; i < steps; i++) {
            made.add("trip", made.between(0, made.packs - 1), made.upTo(0, 60, 700), made.between(1, 1 + size / 2));
        }
        return made.text.toString();
    }

    static String spoilt(Chooser chooser) {
        StringBuilder text = new StringBuilder(good(chooser));
        int kind = chooser.between(0, 9);
        if (kind == 0) {
            text.setLength(chooser.between(0, text.length()));
        } else if (kind == 1) {
            String[] parts = text.toString().split(";");
            String part = parts[chooser.between(0, parts.length - 1)];
            for (int i = 0; i < 17; i++) {
                text.append(';').append(part);
            }
        } else {
            int changes = chooser.between(0, 3);
            for (int i = 0; i < changes; i++) {
                int at = chooser.between(0, text.length());
                int end = Math.min(text.length(), at + chooser.between(0, 2));
                text.replace(at, end, PIECES[chooser.between(0, PIECES.length - 1)]);
            }
        }
        if (text.length() > 500) {
            text.setLength(500);
        }
        return text.toString();
    }
}
