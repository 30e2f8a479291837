import java.util.Map;
import java.util.TreeMap;

/** All promises: runs of made-up calls, each answer compared with that of Model. */
public final class ModelTest {
    private static final String[] ACTIONS = {"lend", "lend", "lend", "recall", "giveBack", "forgive", "mend", "charge",
        "drain", "setReserve", "setCable", "addTrip", "dropTrip", "run", "run", "run", "runToClosed", "undo",
        "saveSnapshot", "restoreSnapshot"};
    private static final String[] QUESTIONS = {"loadError", "loadStatement", "count", "pack", "cable", "gainAt", "trip",
        "contract", "loan", "now", "total", "usedPart", "fullness", "interest", "hindrance", "cheapest", "chargeIn",
        "missIn", "endIn", "endAs", "lacks", "isSafe", "wearIn", "neediest", "richest", "owes", "isOwed"};
    private static final int[] ODD = {Integer.MIN_VALUE, Integer.MAX_VALUE, -1, 0, 8, 9, 10, 16, 24, 500, 501, 999,
        1000, 1001, 9999, 10000, 10001, 100000, 100001};

    private static long seed;
    private static final Map<String, Integer> SEEN = new TreeMap<>();

    // A run does one action often, so that its limits are met too.
    private String favourite;
    private PackLoans real;
    private Model model;
    private int wrong;
    private int calls;

    private ModelTest() {
    }

    private static int below(int bound) {
        seed = seed * 6364136223846793005L + 1442695040888963407L;
        return (int) ((seed >>> 33) % bound);
    }

    private static int between(int low, int high) {
        return low + below(high - low + 1);
    }

    private static String pick(String[] words) {
        return words[below(words.length)];
    }

    public static void main(String[] args) {
        int runs = args.length > 0 ? Integer.parseInt(args[0]) : 300;
        int first = args.length > 1 ? Integer.parseInt(args[1]) : 0;
        ModelTest test = new ModelTest();
        for (int run = first; run < first + runs && test.wrong == 0; run++) {
            seed = run * 7919L + 12345;
            below(2);
            test.oneRun(run);
        }
        for (int run = first; run < first + runs && test.wrong == 0; run++) {
            seed = run * 104729L + 777;
            below(2);
            test.descriptions(run);
        }
        System.out.println("ModelTest: " + test.calls + " answers, " + test.wrong + " wrong");
        if (args.length > 2) {
            System.out.println(SEEN);
        }
        test.checkSeen();
        if (test.wrong > 0) {
            System.exit(1);
        }
    }

    /** What the runs never met would not be tested by them. */
    private void checkSeen() {
        String[] needed = {"lend -11", "lend -12", "lend -13", "lend -14", "recall -3", "giveBack -3", "forgive -3",
            "mend 1", "addTrip -2", "addTrip -4", "dropTrip -3", "setCable -1", "runToClosed -1", "loan state 3",
            "loan state 4", "loan state 5", "isSafe 0", "isSafe 1", "undo -1", "restoreSnapshot -1", "load 1",
            "load 2", "load 3", "load 4"};
        for (String need : needed) {
            if (!SEEN.containsKey(need)) {
                System.out.println("never met: " + need);
                wrong++;
            }
        }
    }

    private static void seen(String what) {
        SEEN.merge(what, 1, Integer::sum);
    }

    private void oneRun(int run) {
        real = new PackLoans();
        model = new Model();
        favourite = pick(ACTIONS);
        int before = calls;
        if (below(20) > 0) {
            give(Descriptions.good(ModelTest::between));
        }
        // Nothing is promised behind 512 calls; a description can take 65 at once.
        while (calls < before + 430 && wrong == 0) {
            if (below(400) == 0) {
                give(Descriptions.good(ModelTest::between));
            } else if (below(5) < 2) {
                act(below(4) == 0 ? favourite : pick(ACTIONS));
                if (below(3) == 0) {
                    lookAtAll();
                }
            } else {
                act(pick(QUESTIONS));
            }
        }
        if (wrong > 0) {
            System.out.println("in run " + run);
        }
    }

    private void descriptions(int run) {
        real = new PackLoans();
        model = new Model();
        for (int i = 0; i < 6 && wrong == 0; i++) {
            give(Descriptions.spoilt(ModelTest::between));
            compare("loadError", 0, 0, 0, 0, 0);
            compare("loadStatement", 0, 0, 0, 0, 0);
            for (int what = 0; what <= 8; what++) {
                compare("count", 0, what, 0, 0, 0);
            }
        }
        if (wrong > 0) {
            System.out.println("in descriptions " + run);
        }
    }

    private void give(String text) {
        for (int from = 0; from < text.length(); from += 8) {
            long bytes = 0;
            for (int i = from; i < from + 8 && i < text.length(); i++) {
                bytes = bytes << 8 | text.charAt(i) & 0xff;
            }
            compare("append", bytes, 0, 0, 0, 0);
        }
        if (compare("load", 0, 0, 0, 0, 0) < 0) {
            seen("load " + real.loadError());
            if (wrong > 0) {
                System.out.println(text);
            }
        }
    }

    private void lookAtAll() {
        for (Model.Loan loan : model.all.loans) {
            seen("loan state " + loan.state);
        }
        String[] names = {"count", "pack", "cable", "trip", "contract", "loan", "total"};
        String name = pick(names);
        int a = below(8);
        for (int what = 0; what <= 9; what++) {
            if (name.equals("cable")) {
                compare(name, 0, a, below(8), what, 0);
            } else if (name.equals("count") || name.equals("total")) {
                compare(name, 0, what, 0, 0, 0);
            } else {
                compare(name, 0, a, what, 0, 0);
            }
        }
    }

    private int index(int size) {
        return size == 0 || below(40) == 0 ? between(-1, size) : below(size);
    }

    private int amount() {
        int limit = 100;
        if (!model.all.packs.isEmpty()) {
            limit = (int) model.all.packs.get(below(model.all.packs.size())).capacity;
        }
        int kind = below(4);
        return kind == 0 ? between(1, limit) : kind == 1 ? between(1, Math.max(1, limit / 10))
                : kind == 2 ? between(1, 5) : between(1, Math.max(1, limit / 3));
    }

    private int ticks() {
        int kind = below(20);
        return kind < 10 ? between(1, 5) : kind < 17 ? between(1, 40) : kind < 19 ? between(1, 500) : between(1, 1000);
    }

    private int odd(int value) {
        return below(60) == 0 ? ODD[below(ODD.length)] : value;
    }

    private void act(String name) {
        int packs = model.all.packs.size();
        int a = index(packs);
        int b = amount();
        int c = 0;
        int d = 0;
        switch (name) {
            case "count": a = between(0, 8); break;
            case "total": a = between(0, 5); break;
            case "pack": b = between(0, 8); break;
            case "fullness": case "missIn": case "owes": case "isOwed": break;
            case "cable": b = index(packs); c = between(0, 3); break;
            case "gainAt": b = between(0, 23); break;
            case "trip": a = index(model.all.trips.size()); b = between(0, 3); break;
            case "dropTrip": case "lacks": a = index(model.all.trips.size()); break;
            case "contract": a = index(model.all.contracts.size()); b = between(0, 9); break;
            case "interest": case "hindrance": case "mend": a = index(model.all.contracts.size()); break;
            case "lend": case "isSafe": a = index(model.all.contracts.size()); c = ticks(); break;
            case "loan": a = index(model.all.loans.size()); b = between(0, 7); break;
            case "recall": case "giveBack": case "forgive": case "endIn": case "endAs":
                a = index(model.all.loans.size());
                break;
            case "runToClosed": a = index(model.all.loans.size()); b = ticks(); break;
            case "setReserve": b = between(0, b); break;
            case "setCable":
                b = index(packs);
                c = below(2) * between(0, 900);
                d = below(2) == 0 ? between(1, 30) : between(1, 10000);
                break;
            case "addTrip":
                c = b;
                b = (int) Math.min(9999, Math.max(0, model.all.time + between(-2, below(4) == 0 ? 520 : 20)));
                break;
            case "run": a = ticks(); break;
            case "chargeIn": case "wearIn": b = ticks(); break;
            case "saveSnapshot": case "restoreSnapshot":
                a = between(0, 1);
                if (below(3) > 0) {
                    return;
                }
                break;
            default: break;
        }
        compare(name, 0, odd(a), odd(b), odd(c), odd(d));
    }

    private interface Answer {
        long get();
    }

    private static long outcome(Answer answer) {
        try {
            return answer.get();
        } catch (IndexOutOfBoundsException e) {
            return e.getClass() == IndexOutOfBoundsException.class ? Long.MAX_VALUE : Long.MAX_VALUE - 2;
        } catch (IllegalArgumentException e) {
            return e.getClass() == IllegalArgumentException.class ? Long.MAX_VALUE - 1 : Long.MAX_VALUE - 2;
        }
    }

    private long compare(String name, long bytes, int a, int b, int c, int d) {
        calls++;
        long got = outcome(() -> realAnswer(name, bytes, a, b, c, d));
        long due = outcome(() -> model.answer(name, bytes, a, b, c, d));
        if (got < 0 || name.equals("isSafe") || name.equals("mend")) {
            seen(name + " " + got);
        }
        if (got != due) {
            wrong++;
            System.out.println(name + "(" + a + ", " + b + ", " + c + ", " + d + ") answered " + got
                    + ", due is " + due);
        }
        return got;
    }

    private long realAnswer(String name, long bytes, int a, int b, int c, int d) {
        switch (name) {
            case "append": return real.append(bytes);
            case "load": return real.load();
            case "loadError": return real.loadError();
            case "loadStatement": return real.loadStatement();
            case "count": return real.count(a);
            case "pack": return real.pack(a, b);
            case "cable": return real.cable(a, b, c);
            case "gainAt": return real.gainAt(a, b);
            case "trip": return real.trip(a, b);
            case "contract": return real.contract(a, b);
            case "loan": return real.loan(a, b);
            case "now": return real.now();
            case "total": return real.total(a);
            case "usedPart": return Double.doubleToLongBits(real.usedPart());
            case "fullness": return Float.floatToIntBits(real.fullness(a));
            case "interest": return real.interest(a, b);
            case "hindrance": return real.hindrance(a, b);
            case "cheapest": return real.cheapest(a, b);
            case "lend": return real.lend(a, b, c);
            case "recall": return real.recall(a);
            case "giveBack": return real.giveBack(a);
            case "forgive": return real.forgive(a);
            case "mend": return real.mend(a);
            case "charge": return real.charge(a, b);
            case "drain": return real.drain(a, b);
            case "setReserve": return real.setReserve(a, b);
            case "setCable": return real.setCable(a, b, c, d);
            case "addTrip": return real.addTrip(a, b, c);
            case "dropTrip": return real.dropTrip(a);
            case "run": return real.run(a);
            case "runToClosed": return real.runToClosed(a, b);
            case "chargeIn": return real.chargeIn(a, b);
            case "missIn": return real.missIn(a);
            case "endIn": return real.endIn(a);
            case "endAs": return real.endAs(a);
            case "lacks": return real.lacks(a);
            case "isSafe": return real.isSafe(a, b, c) ? 1 : 0;
            case "wearIn": return real.wearIn(a, b);
            case "neediest": return real.neediest();
            case "richest": return real.richest();
            case "owes": return real.owes(a);
            case "isOwed": return real.isOwed(a);
            case "undo": return real.undo();
            case "saveSnapshot": return real.saveSnapshot(a);
            case "restoreSnapshot": return real.restoreSnapshot(a);
            default: throw new IllegalStateException(name);
        }
    }
}
