import java.io.ByteArrayInputStream;
import java.io.ByteArrayOutputStream;
import java.io.IOException;
import java.io.ObjectInputStream;
import java.io.ObjectOutputStream;
import java.io.Serializable;
import java.util.ArrayDeque;
import java.util.ArrayList;
import java.util.Deque;
import java.util.List;
import java.util.regex.Matcher;
import java.util.regex.Pattern;

/**
 * The document once more, in the slowest and plainest form: lists of objects, copied as a whole
 * before each action and each prediction. ModelTest compares PackLoans with it.
 */
final class Model {
    static final class Pack implements Serializable {
        private static final long serialVersionUID = 1;
        long capacity;
        long charge;
        long points;
        long reserve;
        int curve = -1;
        int made;
        int missed;
    }

    static final class Cable implements Serializable {
        private static final long serialVersionUID = 1;
        int one;
        int two;
        long loss;
        long rate;
        long sent;
        long lost;
    }

    static final class Trip implements Serializable {
        private static final long serialVersionUID = 1;
        int pack;
        long time;
        long need;
        int state;
    }

    static final class Contract implements Serializable {
        private static final long serialVersionUID = 1;
        int lender;
        int borrower;
        long limit;
        long notice;
        long grace;
        boolean broken;
        long sent;
        long gotBack;
    }

    static final class Loan implements Serializable {
        private static final long serialVersionUID = 1;
        int contract;
        long amount;
        long sent;
        long points;
        long gotBack;
        int state;
        long due;
    }

    static final class All implements Serializable {
        private static final long serialVersionUID = 1;
        long fade = 100;
        long worth = 100;
        final ArrayList<long[]> curves = new ArrayList<>();
        final ArrayList<Pack> packs = new ArrayList<>();
        final ArrayList<Cable> cables = new ArrayList<>();
        final ArrayList<long[]> suns = new ArrayList<>();
        final ArrayList<Trip> trips = new ArrayList<>();
        final ArrayList<Contract> contracts = new ArrayList<>();
        final ArrayList<Loan> loans = new ArrayList<>();
        long time;
        long taken;
        long used;
        long cableLoss;
        long roomLoss;

        Cable cable(int pack, int other) {
            for (Cable c : cables) {
                if (c.one == pack && c.two == other || c.two == pack && c.one == other) {
                    return c;
                }
            }
            return null;
        }

        long room(Pack p) {
            return Math.max(p.capacity - p.points / fade, p.capacity - p.capacity / 2);
        }

        long quarter(Pack p) {
            return Math.min(3, 4 * p.charge / room(p));
        }

        long weight(Pack p) {
            return p.curve < 0 ? 1 : curves.get(p.curve)[(int) quarter(p)];
        }

        void settle(Pack p) {
            long over = Math.max(0, p.charge - room(p));
            p.charge -= over;
            roomLoss += over;
        }

        void receive(Pack p, long amount) {
            p.charge += amount;
            settle(p);
        }

        void spend(Pack p, long amount) {
            long wear = amount * weight(p);
            p.charge -= amount;
            p.points = Math.min(1000000000L, p.points + wear);
            settle(p);
        }

        long charged(long points) {
            return points / worth + (points % worth == 0 ? 0 : 1);
        }

        boolean open(Loan l) {
            return l.state == 0 || l.state == 1 || l.state == 2;
        }

        long owed(Loan l) {
            return open(l) ? Math.max(0, l.sent + charged(l.points) - l.gotBack) : 0;
        }

        long outstanding(int contract) {
            long sum = 0;
            for (Loan l : loans) {
                if (l.contract == contract && open(l)) {
                    sum += owed(l) + (l.state == 0 ? l.amount - l.sent : 0);
                }
            }
            return sum;
        }

        long interest(int contract, long amount) {
            return charged(Math.min(100000000L, amount * weight(packs.get(contracts.get(contract).lender))));
        }

        int hindrance(int contract, long amount) {
            Contract c = contracts.get(contract);
            Pack lender = packs.get(c.lender);
            return c.broken ? 1
                    : outstanding(contract) + amount > c.limit ? 2
                    : lender.charge - lender.reserve < amount ? 3
                    : loans.size() == 16 ? 4 : 0;
        }

        void lend(int contract, long amount, long ticks) {
            Loan l = new Loan();
            l.contract = contract;
            l.amount = amount;
            l.due = time + ticks;
            loans.add(l);
        }

        void firstStep() {
            for (int p = 0; p < packs.size(); p++) {
                for (long[] sun : suns) {
                    if (sun[0] == p && sun[1] <= time % 24 && time % 24 <= sun[2]) {
                        taken += sun[3];
                        receive(packs.get(p), sun[3]);
                    }
                }
            }
        }

        void secondStep(int end) {
            for (Trip trip : trips.subList(0, end)) {
                if (trip.time == time) {
                    Pack p = packs.get(trip.pack);
                    if (p.charge >= trip.need) {
                        spend(p, trip.need);
                        used += trip.need;
                        p.made++;
                        trip.state = 1;
                    } else {
                        p.missed++;
                        trip.state = 2;
                    }
                }
            }
        }

        void thirdStep(Loan l) {
            Contract c = contracts.get(l.contract);
            Pack lender = packs.get(c.lender);
            Pack borrower = packs.get(c.borrower);
            Cable cable = cable(c.lender, c.borrower);
            if ((l.state == 0 || l.state == 1) && time >= l.due) {
                l.state = 2;
            }
            if (l.state == 0) {
                long x = Math.min(l.amount - l.sent, cable.rate - cable.sent);
                x = Math.min(x, Math.max(0, lender.charge - lender.reserve));
                l.points = Math.min(100000000L, l.points + x * weight(lender));
                spend(lender, x);
                l.sent += x;
                c.sent += x;
                receive(borrower, through(cable, x));
                if (l.sent == l.amount) {
                    l.state = 1;
                }
            } else if (l.state == 2) {
                if (owed(l) == 0) {
                    l.state = 3;
                    return;
                }
                long rest = 1000 - cable.loss;
                long x = owed(l) * 1000 / rest + (owed(l) * 1000 % rest == 0 ? 0 : 1);
                x = Math.min(x, Math.min(borrower.charge, cable.rate - cable.sent));
                spend(borrower, x);
                long y = through(cable, x);
                l.gotBack += y;
                c.gotBack += y;
                receive(lender, y);
                if (owed(l) == 0) {
                    l.state = 3;
                } else if (time >= l.due + c.grace) {
                    l.state = 4;
                    c.broken = true;
                }
            }
        }

        long through(Cable cable, long x) {
            long lost = x * cable.loss / 1000;
            cable.sent += x;
            cable.lost += lost;
            cableLoss += lost;
            return x - lost;
        }

        void tick() {
            for (Cable c : cables) {
                c.sent = 0;
            }
            firstStep();
            secondStep(trips.size());
            for (Loan l : loans) {
                thirdStep(l);
            }
            time++;
        }

        All copy() {
            try {
                ByteArrayOutputStream bytes = new ByteArrayOutputStream();
                ObjectOutputStream out = new ObjectOutputStream(bytes);
                out.writeObject(this);
                out.close();
                return (All) new ObjectInputStream(new ByteArrayInputStream(bytes.toByteArray())).readObject();
            } catch (IOException | ClassNotFoundException e) {
                throw new IllegalStateException(e);
            }
        }
    }

    private static final class Wrong extends Exception {
        private static final long serialVersionUID = 1;
        final int kind;
        final int position;

        Wrong(int kind, int position) {
            this.kind = kind;
            this.position = position;
        }
    }

    private static final String[] WORDS = {"curve", "pack", "cable", "sun", "trip", "contract"};
    private static final int[] MOST = {4, 8, 12, 12, 16, 8};

    All all = new All();
    private final Deque<All> past = new ArrayDeque<>();
    private final All[] slots = new All[2];
    private String buffer = "";
    private int loadError;
    private int loadStatement = -1;

    // The text is cut into pieces first: each a word, a number or one byte that is no space.
    private final List<String> pieces = new ArrayList<>();
    private final List<Integer> places = new ArrayList<>();
    private int piece;
    private int textLength;

    private String peek() {
        return piece < pieces.size() ? pieces.get(piece) : "";
    }

    private int place() {
        return piece < pieces.size() ? places.get(piece) : textLength;
    }

    private long number(long low, long high) throws Wrong {
        if (!peek().matches("[0-9]+")) {
            throw new Wrong(1, place());
        }
        java.math.BigInteger value = new java.math.BigInteger(peek());
        if (value.compareTo(java.math.BigInteger.valueOf(low)) < 0
                || value.compareTo(java.math.BigInteger.valueOf(high)) > 0) {
            throw new Wrong(2, place());
        }
        piece++;
        return value.longValue();
    }

    private void statement(All draft) throws Wrong {
        int start = place();
        int kind = List.of(WORDS).indexOf(peek());
        if (kind < 0) {
            throw new Wrong(1, start);
        }
        List<?> list = List.of(draft.curves, draft.packs, draft.cables, draft.suns, draft.trips, draft.contracts)
                .get(kind);
        if (list.size() == MOST[kind]) {
            throw new Wrong(4, start);
        }
        piece++;
        if (kind == 0) {
            draft.curves.add(new long[] {number(0, 1000), number(0, 1000), number(0, 1000), number(0, 1000)});
            return;
        }
        if (kind == 1) {
            Pack p = new Pack();
            p.capacity = number(2, 100000);
            p.charge = number(0, p.capacity);
            if (peek().matches("[0-9]+")) {
                p.curve = (int) number(0, draft.curves.size() - 1);
            }
            draft.packs.add(p);
            draft.taken += p.charge;
            return;
        }
        int first = (int) number(0, draft.packs.size() - 1);
        if (kind == 3) {
            long from = number(0, 23);
            draft.suns.add(new long[] {first, from, number(from, 23), number(1, 10000)});
        } else if (kind == 4) {
            Trip t = new Trip();
            t.pack = first;
            t.time = number(0, 9999);
            t.need = number(1, 100000);
            draft.trips.add(t);
        } else {
            int secondPlace = place();
            int second = (int) number(0, draft.packs.size() - 1);
            boolean joined = draft.cable(first, second) != null;
            if (first == second || joined == (kind == 2)) {
                throw new Wrong(3, secondPlace);
            }
            if (kind == 2) {
                Cable c = new Cable();
                c.one = first;
                c.two = second;
                c.loss = number(0, 900);
                c.rate = number(1, 10000);
                draft.cables.add(c);
            } else {
                Contract c = new Contract();
                c.lender = first;
                c.borrower = second;
                c.limit = number(1, 100000);
                c.notice = number(0, 99);
                c.grace = number(0, 99);
                draft.contracts.add(c);
            }
        }
    }

    private int load() {
        pieces.clear();
        places.clear();
        Matcher m = Pattern.compile("[a-z]+|[0-9]+|[^ ]", Pattern.DOTALL).matcher(buffer);
        while (m.find()) {
            pieces.add(m.group());
            places.add(m.start());
        }
        piece = 0;
        textLength = buffer.length();
        buffer = "";
        int statement = 0;
        try {
            All draft = new All();
            if (!peek().equals("packs")) {
                throw new Wrong(1, place());
            }
            piece++;
            draft.fade = number(1, 10000);
            draft.worth = number(1, 10000);
            while (piece < pieces.size()) {
                if (!peek().equals(";")) {
                    throw new Wrong(1, place());
                }
                piece++;
                statement++;
                statement(draft);
            }
            all = draft;
            past.clear();
            loadError = 0;
            loadStatement = -1;
            return all.packs.size();
        } catch (Wrong e) {
            loadError = e.kind;
            loadStatement = statement;
            return -100 - e.position;
        }
    }

    private int append(long bytes) {
        StringBuilder more = new StringBuilder();
        for (byte b : java.nio.ByteBuffer.allocate(8).putLong(bytes).array()) {
            if (b != 0) {
                more.append((char) (b & 255));
            }
        }
        if (buffer.length() + more.length() > 500) {
            return -2;
        }
        buffer += more;
        return buffer.length();
    }

    private static void index(long value, int size) {
        if (value < 0 || value >= size) {
            throw new IndexOutOfBoundsException();
        }
    }

    private static void range(long value, long low, long high) {
        if (value < low || value > high) {
            throw new IllegalArgumentException();
        }
    }

    private void action() {
        past.addLast(all);
        all = all.copy();
        if (past.size() > 8) {
            past.removeFirst();
        }
    }

    double usedPart() {
        return all.taken == 0 ? 0.0 : (double) all.used / (double) all.taken;
    }

    float fullness(int pack) {
        index(pack, all.packs.size());
        Pack p = all.packs.get(pack);
        return (float) p.charge / (float) all.room(p);
    }

    private long pick(long what, long... numbers) {
        range(what, 0, numbers.length - 1);
        return numbers[(int) what];
    }

    private long ofPack(int pack, int what) {
        index(pack, all.packs.size());
        Pack p = all.packs.get(pack);
        return pick(what, p.capacity, all.room(p), p.charge, p.points, p.curve, p.reserve, p.made, p.missed,
                all.quarter(p));
    }

    private long ofCable(int pack, int other, int what) {
        index(pack, all.packs.size());
        index(other, all.packs.size());
        range(what, 0, 3);
        Cable c = all.cable(pack, other);
        return c == null ? -1 : pick(what, c.loss, c.rate, c.sent, c.lost);
    }

    private long ofTrip(int trip, int what) {
        index(trip, all.trips.size());
        Trip t = all.trips.get(trip);
        return pick(what, t.pack, t.time, t.need, t.state);
    }

    private long ofContract(int contract, int what) {
        index(contract, all.contracts.size());
        Contract c = all.contracts.get(contract);
        long open = all.loans.stream().filter(l -> l.contract == contract && all.open(l)).count();
        return pick(what, c.lender, c.borrower, c.limit, c.notice, c.grace, all.outstanding(contract), open,
                c.broken ? 1 : 0, c.sent, c.gotBack);
    }

    private long ofLoan(int loan, int what) {
        index(loan, all.loans.size());
        Loan l = all.loans.get(loan);
        return pick(what, l.contract, l.amount, l.sent, l.points, l.gotBack, all.owed(l), l.state, l.due);
    }

    private long total(int what) {
        return pick(what, all.taken, all.used, all.cableLoss, all.roomLoss,
                all.packs.stream().mapToLong(p -> p.charge).sum(), all.packs.stream().mapToLong(p -> p.points).sum());
    }

    private long cheapest(int pack, int amount) {
        index(pack, all.packs.size());
        range(amount, 1, 100000);
        long best = Long.MAX_VALUE;
        int found = -1;
        for (int i = all.contracts.size() - 1; i >= 0; i--) {
            Contract c = all.contracts.get(i);
            if (c.borrower == pack && all.hindrance(i, amount) == 0) {
                long cost = all.interest(i, amount) + amount * all.cable(c.lender, c.borrower).loss / 1000;
                if (cost <= best) {
                    best = cost;
                    found = i;
                }
            }
        }
        return found;
    }

    private long lend(int contract, int amount, int ticks) {
        index(contract, all.contracts.size());
        range(amount, 1, 100000);
        range(ticks, 1, 999);
        int hindrance = all.hindrance(contract, amount);
        if (hindrance > 0) {
            return -10 - hindrance;
        }
        action();
        all.lend(contract, amount, ticks);
        return all.loans.size() - 1;
    }

    private long onLoan(String name, int loan) {
        index(loan, all.loans.size());
        if (!all.open(all.loans.get(loan))) {
            return -3;
        }
        action();
        Loan l = all.loans.get(loan);
        long owed = all.owed(l);
        if (name.equals("recall")) {
            l.due = Math.min(l.due, all.time + all.contracts.get(l.contract).notice);
            return l.due;
        }
        if (name.equals("giveBack")) {
            l.due = Math.min(l.due, all.time);
        } else {
            l.state = 5;
        }
        return owed;
    }

    private long drain(int pack, int amount) {
        index(pack, all.packs.size());
        range(amount, 1, 100000);
        action();
        Pack p = all.packs.get(pack);
        long used = Math.min(p.charge, amount);
        all.spend(p, used);
        all.used += used;
        return used;
    }

    private long charge(int pack, int amount) {
        index(pack, all.packs.size());
        range(amount, 1, 100000);
        action();
        all.taken += amount;
        all.receive(all.packs.get(pack), amount);
        return all.packs.get(pack).charge;
    }

    private long setReserve(int pack, int reserve) {
        index(pack, all.packs.size());
        range(reserve, 0, 100000);
        action();
        long old = all.packs.get(pack).reserve;
        all.packs.get(pack).reserve = reserve;
        return old;
    }

    private long setCable(int pack, int other, int loss, int rate) {
        index(pack, all.packs.size());
        index(other, all.packs.size());
        range(loss, 0, 900);
        range(rate, 1, 10000);
        if (all.cable(pack, other) == null) {
            return -1;
        }
        action();
        Cable c = all.cable(pack, other);
        long old = c.loss;
        c.loss = loss;
        c.rate = rate;
        return old;
    }

    private long addTrip(int pack, int time, int need) {
        index(pack, all.packs.size());
        range(time, 0, 9999);
        range(need, 1, 100000);
        if (all.trips.size() == 16) {
            return -2;
        }
        if (time < all.time) {
            return -4;
        }
        action();
        Trip t = new Trip();
        t.pack = pack;
        t.time = time;
        t.need = need;
        all.trips.add(t);
        return all.trips.size() - 1;
    }

    private long dropTrip(int trip) {
        index(trip, all.trips.size());
        if (all.trips.get(trip).state != 0) {
            return -3;
        }
        action();
        all.trips.remove(trip);
        return all.trips.size();
    }

    private long run(int ticks) {
        range(ticks, 1, 1000);
        range(all.time + ticks, 0, 9999);
        action();
        for (int i = 0; i < ticks; i++) {
            all.tick();
        }
        return all.time;
    }

    private long runToClosed(int loan, int most) {
        index(loan, all.loans.size());
        range(most, 1, 1000);
        action();
        long start = all.time;
        while (all.open(all.loans.get(loan)) && all.time < start + most && all.time < 9999) {
            all.tick();
        }
        return all.open(all.loans.get(loan)) ? -1 : all.time - start;
    }

    private All later(int ticks) {
        All later = all.copy();
        for (int i = 0; i < ticks; i++) {
            later.tick();
        }
        return later;
    }

    private long missIn(int pack) {
        index(pack, all.packs.size());
        All later = all.copy();
        for (int i = 1; i <= 500; i++) {
            later.tick();
            if (later.packs.get(pack).missed != all.packs.get(pack).missed) {
                return i;
            }
        }
        return -1;
    }

    private long end(int loan, boolean how) {
        index(loan, all.loans.size());
        All later = all.copy();
        int passed = 0;
        while (later.open(later.loans.get(loan)) && passed < 500) {
            later.tick();
            passed++;
        }
        int state = later.loans.get(loan).state;
        return how ? state : state < 3 ? -1 : passed;
    }

    private long lacks(int trip) {
        index(trip, all.trips.size());
        Trip t = all.trips.get(trip);
        if (t.state != 0 || t.time - all.time > 499) {
            return -1;
        }
        All later = later((int) (t.time - all.time));
        later.firstStep();
        later.secondStep(trip);
        return Math.max(0, t.need - later.packs.get(t.pack).charge);
    }

    private long isSafe(int contract, int amount, int ticks) {
        index(contract, all.contracts.size());
        range(amount, 1, 100000);
        range(ticks, 1, 500);
        if (all.hindrance(contract, amount) != 0) {
            return 0;
        }
        int lender = all.contracts.get(contract).lender;
        int without = later(ticks).packs.get(lender).missed;
        All with = all.copy();
        with.lend(contract, amount, ticks);
        for (int i = 0; i < ticks; i++) {
            with.tick();
        }
        return with.packs.get(lender).missed <= without ? 1 : 0;
    }

    private long forecast(int pack, int ticks, boolean wear) {
        index(pack, all.packs.size());
        range(ticks, 1, 500);
        Pack p = later(ticks).packs.get(pack);
        return wear ? p.points - all.packs.get(pack).points : p.charge;
    }

    private long extreme(int sign) {
        int best = -1;
        long most = Long.MIN_VALUE;
        for (int i = 0; i < all.packs.size(); i++) {
            long above = sign * (all.packs.get(i).charge - all.packs.get(i).reserve);
            if (above > most) {
                most = above;
                best = i;
            }
        }
        return best;
    }

    private long debts(int pack, boolean asLender) {
        index(pack, all.packs.size());
        long sum = 0;
        for (Loan l : all.loans) {
            Contract c = all.contracts.get(l.contract);
            if ((asLender ? c.lender : c.borrower) == pack) {
                sum += all.owed(l);
            }
        }
        return sum;
    }

    private long undo() {
        if (past.isEmpty()) {
            return -1;
        }
        all = past.removeLast();
        return past.size();
    }

    private long snapshot(int slot, boolean save) {
        range(slot, 0, 1);
        if (save) {
            slots[slot] = all.copy();
            return all.time;
        }
        if (slots[slot] == null) {
            return -1;
        }
        all = slots[slot].copy();
        past.clear();
        return all.time;
    }

    private long mend(int contract) {
        index(contract, all.contracts.size());
        action();
        boolean broken = all.contracts.get(contract).broken;
        all.contracts.get(contract).broken = false;
        return broken ? 1 : 0;
    }

    private long gainAt(int pack, int hour) {
        index(pack, all.packs.size());
        range(hour, 0, 23);
        return all.suns.stream().filter(s -> s[0] == pack && s[1] <= hour && hour <= s[2]).mapToLong(s -> s[3]).sum();
    }

    private long ofLending(String name, int contract, int amount) {
        index(contract, all.contracts.size());
        range(amount, 1, 100000);
        return name.equals("interest") ? all.interest(contract, amount) : all.hindrance(contract, amount);
    }

    long answer(String name, long bytes, int a, int b, int c, int d) {
        switch (name) {
            case "append": return append(bytes);
            case "load": return load();
            case "loadError": return loadError;
            case "loadStatement": return loadStatement;
            case "count": return pick(a, all.packs.size(), all.curves.size(), all.cables.size(), all.suns.size(),
                    all.trips.size(), all.contracts.size(), all.loans.size(),
                    all.loans.stream().filter(l -> all.open(l)).count(), past.size());
            case "pack": return ofPack(a, b);
            case "cable": return ofCable(a, b, c);
            case "gainAt": return gainAt(a, b);
            case "trip": return ofTrip(a, b);
            case "contract": return ofContract(a, b);
            case "loan": return ofLoan(a, b);
            case "now": return all.time;
            case "total": return total(a);
            case "usedPart": return Double.doubleToLongBits(usedPart());
            case "fullness": return Float.floatToIntBits(fullness(a));
            case "interest": case "hindrance": return ofLending(name, a, b);
            case "cheapest": return cheapest(a, b);
            case "lend": return lend(a, b, c);
            case "recall": case "giveBack": case "forgive": return onLoan(name, a);
            case "mend": return mend(a);
            case "charge": return charge(a, b);
            case "drain": return drain(a, b);
            case "setReserve": return setReserve(a, b);
            case "setCable": return setCable(a, b, c, d);
            case "addTrip": return addTrip(a, b, c);
            case "dropTrip": return dropTrip(a);
            case "run": return run(a);
            case "runToClosed": return runToClosed(a, b);
            case "chargeIn": return forecast(a, b, false);
            case "missIn": return missIn(a);
            case "endIn": return end(a, false);
            case "endAs": return end(a, true);
            case "lacks": return lacks(a);
            case "isSafe": return isSafe(a, b, c);
            case "wearIn": return forecast(a, b, true);
            case "neediest": return extreme(-1);
            case "richest": return extreme(1);
            case "owes": return debts(a, false);
            case "isOwed": return debts(a, true);
            case "undo": return undo();
            case "saveSnapshot": return snapshot(a, true);
            case "restoreSnapshot": return snapshot(a, false);
            default: throw new IllegalStateException(name);
        }
    }
}
