import java.io.IOException;
import java.io.UncheckedIOException;
import java.util.BitSet;
import java.util.HashMap;
import java.util.Map;
import java.util.regex.Matcher;
import java.util.regex.Pattern;

/** Checks that stand under a sentence of the document, which is told with an answer that is wrong. */
final class Bounds {
    interface Maker {
        PackLoans make();
    }

    interface Call {
        long of(PackLoans x);
    }

    interface CallWith {
        long of(PackLoans x, int value);
    }

    static final long NO_INDEX = Long.MIN_VALUE;
    static final long ILLEGAL = Long.MIN_VALUE + 1;
    static final long OTHER = Long.MIN_VALUE + 2;

    static final Bounds ALL = new Bounds();

    private static final Pattern WORD = Pattern.compile("\\w+");

    private final Checks checks = new Checks();
    private final Map<String, String> parts;
    private final Map<String, BitSet> said = new HashMap<>();
    private String sentence = "";

    private Bounds() {
        try {
            parts = Document.parts();
        } catch (IOException e) {
            throw new UncheckedIOException(e);
        }
    }

    /** Packs with much going on: trips made, missed and to come, two loans, a snapshot, a full table of actions. */
    static PackLoans begun() {
        PackLoans x = Checks.loaded("packs 10 10;curve 1 2 3 4;pack 1000 800 0;pack 500 300;cable 0 1 100 50;"
                + "sun 1 5 6 10;trip 0 1 100;trip 1 2 400;trip 1 40 30;contract 0 1 300 2 3;contract 1 0 40 0 0");
        x.saveSnapshot(0);
        for (int i = 0; i < 5; i++) {
            x.setReserve(0, i * 10);
        }
        x.lend(0, 120, 9);
        x.lend(1, 30, 2);
        x.run(3);
        x.charge(1, 20);
        x.setReserve(0, 50);
        return x;
    }

    /** The loans 0 to 5 are in the states 3, 5, 4, 1, 2 and 0; 0, 0, 0, 11, 21 and 0 are owed; the time is 7. */
    static PackLoans allStates() {
        PackLoans x = Checks.loaded("packs 10 100;pack 1000 500;pack 1000 100;cable 0 1 0 50;contract 0 1 300 2 3;"
                + "contract 1 0 300 0 0");
        x.lend(0, 10, 1);
        x.run(2);
        x.lend(0, 10, 9);
        x.forgive(1);
        x.lend(1, 10, 1);
        x.run(1);
        x.drain(0, 1000);
        x.run(1);
        x.charge(0, 500);
        x.lend(0, 10, 99);
        x.run(1);
        x.lend(0, 20, 1);
        x.run(1);
        x.drain(1, 1000);
        x.run(1);
        x.lend(0, 10, 9);
        return x;
    }

    /** What follows tests these words of a part of the document. */
    void says(String part, String words) {
        sentence = part + ", \"" + words + "\": ";
        int from = parts.getOrDefault(part, "").indexOf(words);
        checks.yes(sentence + "the document has it", from >= 0);
        if (from >= 0) {
            said.computeIfAbsent(part, name -> new BitSet()).set(from, from + words.length());
        }
    }

    /** Each word of the document's sentences stands in words that have tests. */
    void allIsSaid() {
        sentence = "";
        for (Map.Entry<String, String> part : parts.entrySet()) {
            BitSet tested = said.getOrDefault(part.getKey(), new BitSet());
            Matcher word = WORD.matcher(part.getValue());
            while (word.find()) {
                int from = Math.max(0, word.start() - 60);
                int to = Math.min(part.getValue().length(), word.end() + 60);
                checks.yes(part.getKey() + " has no test of '" + word.group() + "' in: .. "
                        + part.getValue().substring(from, to) + " ..", tested.get(word.start()));
            }
        }
    }

    void same(String call, long got, long due) {
        checks.same(sentence + call, got, due);
    }

    void same(String call, double got, double due) {
        checks.same(sentence + call, got, due);
    }

    void yes(String what, boolean holds) {
        checks.yes(sentence + what, holds);
    }

    void end(String test) {
        checks.end(test);
    }

    static long outcome(PackLoans x, Call call) {
        try {
            return call.of(x);
        } catch (IndexOutOfBoundsException e) {
            return e.getClass() == IndexOutOfBoundsException.class ? NO_INDEX : OTHER;
        } catch (IllegalArgumentException e) {
            return e.getClass() == IllegalArgumentException.class ? ILLEGAL : OTHER;
        }
    }

    private static String word(long answer) {
        return answer == NO_INDEX ? "IndexOutOfBoundsException" : answer == ILLEGAL ? "IllegalArgumentException"
                : answer == OTHER ? "another exception" : Long.toString(answer);
    }

    /** All that can be asked of an object, its buffer, its latest action and its snapshots too; it is spent then. */
    private static String allOf(PackLoans x) {
        StringBuilder all = new StringBuilder(Checks.digest(x));
        all.append(' ').append(x.append(0)).append(' ').append(x.loadError()).append(' ').append(x.loadStatement());
        all.append(' ').append(x.undo()).append(Checks.digest(x));
        all.append(' ').append(x.restoreSnapshot(0)).append(' ').append(x.restoreSnapshot(1));
        return all.toString();
    }

    /** The call answers or throws what is due, and the object is as one that did not get the call. */
    void refused(Maker maker, String name, Call call, long due) {
        PackLoans tried = maker.make();
        long got = outcome(tried, call);
        checks.same(sentence + name + ", as " + word(got) + " for " + word(due), got, due);
        checks.yes(sentence + name + " changes nothing", allOf(tried).equals(allOf(maker.make())));
    }

    private void allowed(Maker maker, String name, CallWith call, int value) {
        long got = outcome(maker.make(), x -> call.of(x, value));
        checks.yes(sentence + name + " with " + value + " answers, not " + word(got), got > OTHER);
    }

    private void refusedAround(Maker maker, String name, int low, int high, CallWith call, long due) {
        for (int value : new int[] {low - 1, high + 1, Integer.MIN_VALUE, Integer.MAX_VALUE, -high - 2}) {
            refused(maker, name + " with " + value, x -> call.of(x, value), due);
        }
    }

    /** Both ends of the range are allowed; what is beyond is an IllegalArgumentException and changes nothing. */
    void range(Maker maker, String name, int low, int high, CallWith call) {
        allowed(maker, name, call, low);
        allowed(maker, name, call, high);
        refusedAround(maker, name, low, high, call, ILLEGAL);
    }

    /** The same for numbers from 0 of things of which there are so many, and an IndexOutOfBoundsException. */
    void index(Maker maker, String name, int number, CallWith call) {
        if (number > 0) {
            allowed(maker, name, call, 0);
            allowed(maker, name, call, number - 1);
        }
        refusedAround(maker, name, 0, number - 1, call, NO_INDEX);
    }
}
