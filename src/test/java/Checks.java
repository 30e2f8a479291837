/** Compares answers with those that are due, and counts the wrong ones. */
final class Checks {
    interface Call {
        long answer();
    }

    private int wrong;
    private int made;

    void same(String call, long got, long due) {
        made++;
        if (got != due) {
            wrong++;
            System.out.println(call + " answered " + got + ", due is " + due);
        }
    }

    void same(String call, double got, double due) {
        made++;
        if (Double.compare(got, due) != 0) {
            wrong++;
            System.out.println(call + " answered " + got + ", due is " + due);
        }
    }

    void yes(String what, boolean holds) {
        same(what, holds ? 1 : 0, 1);
    }

    void noIndex(String call, Call tried) {
        same(call + " (1: IndexOutOfBounds, 2: IllegalArgument)", thrownBy(tried), 1);
    }

    void illegal(String call, Call tried) {
        same(call + " (1: IndexOutOfBounds, 2: IllegalArgument)", thrownBy(tried), 2);
    }

    private static int thrownBy(Call tried) {
        try {
            tried.answer();
            return 0;
        } catch (IndexOutOfBoundsException e) {
            return e.getClass() == IndexOutOfBoundsException.class ? 1 : 3;
        } catch (IllegalArgumentException e) {
            return e.getClass() == IllegalArgumentException.class ? 2 : 3;
        }
    }

    void end(String test) {
        System.out.println(test + ": " + made + " answers, " + wrong + " wrong");
        if (wrong > 0 || made == 0) {
            System.exit(1);
        }
    }

    /** Appends a text, eight bytes a call; returns the latest answer of append. */
    static int append(PackLoans packs, String text) {
        int answer = packs.append(0);
        for (int from = 0; from < text.length(); from += 8) {
            long bytes = 0;
            for (int i = from; i < from + 8 && i < text.length(); i++) {
                bytes = bytes << 8 | text.charAt(i) & 0xff;
            }
            answer = packs.append(bytes);
        }
        return answer;
    }

    static int load(PackLoans packs, String text) {
        append(packs, text);
        return packs.load();
    }

    static PackLoans loaded(String text) {
        PackLoans packs = new PackLoans();
        int answer = load(packs, text);
        if (answer < 0) {
            throw new IllegalStateException("load answered " + answer + " to " + text);
        }
        return packs;
    }

    /** All that the questions without predictions tell of an object, but for what append would answer. */
    static String digest(PackLoans x) {
        StringBuilder all = new StringBuilder();
        all.append(x.now()).append(' ').append(x.usedPart());
        for (int what = 0; what <= 8; what++) {
            all.append(" count ").append(x.count(what));
        }
        for (int what = 0; what <= 5; what++) {
            all.append(" total ").append(x.total(what));
        }
        for (int i = 0; i < x.count(0); i++) {
            all.append(" pack ");
            for (int what = 0; what <= 8; what++) {
                all.append(x.pack(i, what)).append(' ');
            }
            for (int hour = 0; hour < 24; hour++) {
                all.append(x.gainAt(i, hour)).append(' ');
            }
            for (int j = 0; j < x.count(0); j++) {
                for (int what = 0; what <= 3; what++) {
                    all.append(x.cable(i, j, what)).append(' ');
                }
            }
        }
        for (int i = 0; i < x.count(4); i++) {
            all.append(" trip ");
            for (int what = 0; what <= 3; what++) {
                all.append(x.trip(i, what)).append(' ');
            }
        }
        for (int i = 0; i < x.count(5); i++) {
            all.append(" contract ").append(x.interest(i, 1)).append(' ');
            for (int what = 0; what <= 9; what++) {
                all.append(x.contract(i, what)).append(' ');
            }
        }
        for (int i = 0; i < x.count(6); i++) {
            all.append(" loan ");
            for (int what = 0; what <= 7; what++) {
                all.append(x.loan(i, what)).append(' ');
            }
        }
        return all.toString();
    }

    /** The same without the number of actions that can be taken back. */
    static String digestWithoutActions(PackLoans x) {
        return digest(x).replaceFirst("(( count -?[0-9]+){8}) count [0-9]+", "$1");
    }
}
