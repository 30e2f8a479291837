import java.util.Arrays;

/** Power packs that lend charge to one another by contracts, as the document of the project promises. */
public final class PackLoans {
    public static final int NONE = -1;
    public static final int FULL = -2;
    public static final int WRONG_STATE = -3;
    public static final int TOO_LATE = -4;

    private static final int MOST_PACKS = 8;
    private static final int MOST_CURVES = 4;
    private static final int MOST_CABLES = 12;
    private static final int MOST_SUNS = 12;
    private static final int MOST_TRIPS = 16;
    private static final int MOST_CONTRACTS = 8;
    private static final int MOST_LOANS = 16;
    private static final int MOST_ACTIONS = 8;
    private static final int MOST_BYTES = 500;
    private static final int MOST_AMOUNT = 100000;
    private static final int MOST_LOSS = 900;
    private static final int MOST_RATE = 10000;
    private static final int MOST_POINTS = 1000000000;
    private static final int MOST_LOAN_POINTS = 100000000;
    private static final int QUARTERS = 4;
    private static final int HOURS = 24;
    private static final int LAST_TIME = 9999;
    private static final int MOST_TICKS = 1000;
    private static final int MOST_LENT_TICKS = 999;
    private static final int MOST_FORESEEN = 500;
    private static final int SLOTS = 2;
    private static final int NO_LOAN = -10;

    private static final int TO_COME = 0;
    private static final int MADE = 1;
    private static final int MISSED = 2;

    private static final int SENDING = 0;
    private static final int RUNNING = 1;
    private static final int RETURNING = 2;
    private static final int CLOSED = 3;
    private static final int BROKEN = 4;
    private static final int FORGIVEN = 5;

    private final World world = new World(new Plan());
    // Predictions pass ticks here: the plan is shared, the state is a copy.
    private final World future = new World(world.plan);
    private final Reader reader = new Reader();
    private final History history = new History();
    private final World[] snapshots = {new World(new Plan()), new World(new Plan())};
    private final boolean[] saved = new boolean[SLOTS];

    public PackLoans() {
    }

    public int append(long bytes) {
        return reader.takeIn(bytes);
    }

    public int load() {
        reader.readText();
        if (reader.error != 0) {
            return -100 - reader.errorAt;
        }
        world.copyFrom(reader.draft);
        history.clear();
        return world.plan.packs;
    }

    public int loadError() {
        return reader.error;
    }

    public int loadStatement() {
        return reader.error == 0 ? NONE : reader.statement;
    }

    public int count(int what) throws IllegalArgumentException {
        checkRange(what, 0, 8);
        switch (what) {
            case 0: return world.plan.packs;
            case 1: return world.plan.curves;
            case 2: return world.plan.cables;
            case 3: return world.plan.suns;
            case 4: return world.state.trips.number;
            case 5: return world.plan.contracts;
            case 6: return world.state.loans.number;
            case 7: return world.openLoans();
            default: return history.number;
        }
    }

    public int pack(int pack, int what) throws IndexOutOfBoundsException, IllegalArgumentException {
        checkIndex(pack, world.plan.packs);
        checkRange(what, 0, 8);
        switch (what) {
            case 0: return world.plan.capacity[pack];
            case 1: return world.roomOf(pack);
            case 2: return world.state.charge[pack];
            case 3: return world.state.points[pack];
            case 4: return world.plan.curve[pack];
            case 5: return world.state.reserve[pack];
            case 6: return world.state.trips.numberOf(pack, MADE);
            case 7: return world.state.trips.numberOf(pack, MISSED);
            default: return world.quarterOf(pack);
        }
    }

    public int cable(int pack, int other, int what) throws IndexOutOfBoundsException, IllegalArgumentException {
        checkIndex(pack, world.plan.packs);
        checkIndex(other, world.plan.packs);
        checkRange(what, 0, 3);
        int cable = world.plan.cableBetween(pack, other);
        if (cable == NONE) {
            return NONE;
        }
        switch (what) {
            case 0: return world.state.loss[cable];
            case 1: return world.state.rate[cable];
            case 2: return world.state.sentNow[cable];
            default: return world.state.lostSoFar[cable];
        }
    }

    public int gainAt(int pack, int hour) throws IndexOutOfBoundsException, IllegalArgumentException {
        checkIndex(pack, world.plan.packs);
        checkRange(hour, 0, HOURS - 1);
        return world.plan.gain(pack, hour);
    }

    public int trip(int trip, int what) throws IndexOutOfBoundsException, IllegalArgumentException {
        Trips trips = world.state.trips;
        checkIndex(trip, trips.number);
        checkRange(what, 0, 3);
        switch (what) {
            case 0: return trips.pack[trip];
            case 1: return trips.time[trip];
            case 2: return trips.need[trip];
            default: return trips.state[trip];
        }
    }

    public int contract(int contract, int what) throws IndexOutOfBoundsException, IllegalArgumentException {
        checkIndex(contract, world.plan.contracts);
        checkRange(what, 0, 9);
        switch (what) {
            case 0: return world.plan.lender[contract];
            case 1: return world.plan.borrower[contract];
            case 2: return world.plan.limit[contract];
            case 3: return world.plan.notice[contract];
            case 4: return world.plan.grace[contract];
            case 5: return world.outstanding(contract);
            case 6: return world.state.loans.openBy(contract);
            case 7: return world.state.broken[contract];
            case 8: return world.state.loans.sentBy(contract);
            default: return world.state.loans.gotBackBy(contract);
        }
    }

    public int loan(int loan, int what) throws IndexOutOfBoundsException, IllegalArgumentException {
        Loans loans = world.state.loans;
        checkIndex(loan, loans.number);
        checkRange(what, 0, 7);
        switch (what) {
            case 0: return loans.contract[loan];
            case 1: return loans.amount[loan];
            case 2: return loans.sent[loan];
            case 3: return loans.points[loan];
            case 4: return loans.gotBack[loan];
            case 5: return world.owed(loan);
            case 6: return loans.state[loan];
            default: return loans.due[loan];
        }
    }

    public int now() {
        return world.state.time;
    }

    public long total(int what) throws IllegalArgumentException {
        checkRange(what, 0, 5);
        switch (what) {
            case 0: return world.state.takenIn;
            case 1: return world.state.used;
            case 2: return sumOf(world.state.lostSoFar, world.plan.cables);
            case 3: return world.state.lostForRoom;
            case 4: return sumOf(world.state.charge, world.plan.packs);
            default: return sumOf(world.state.points, world.plan.packs);
        }
    }

    public double usedPart() {
        long takenIn = world.state.takenIn;
        return takenIn == 0 ? 0.0 : (double) world.state.used / (double) takenIn;
    }

    public float fullness(int pack) throws IndexOutOfBoundsException {
        checkIndex(pack, world.plan.packs);
        int room = world.roomOf(pack);
        return room < 1 ? 0.0f : (float) world.state.charge[pack] / (float) room;
    }

    public int interest(int contract, int amount) throws IndexOutOfBoundsException, IllegalArgumentException {
        checkIndex(contract, world.plan.contracts);
        checkRange(amount, 1, MOST_AMOUNT);
        return world.interestAtOnce(contract, amount);
    }

    public int hindrance(int contract, int amount) throws IndexOutOfBoundsException, IllegalArgumentException {
        checkIndex(contract, world.plan.contracts);
        checkRange(amount, 1, MOST_AMOUNT);
        return world.hindranceOf(contract, amount);
    }

    public int cheapest(int borrower, int amount) throws IndexOutOfBoundsException, IllegalArgumentException {
        checkIndex(borrower, world.plan.packs);
        checkRange(amount, 1, MOST_AMOUNT);
        int best = NONE;
        int leastCost = 0;
        for (int contract = 0; contract < world.plan.contracts; contract++) {
            if (world.plan.borrower[contract] == borrower && world.hindranceOf(contract, amount) == 0) {
                int cost = world.costAtOnce(contract, amount);
                if (best == NONE || cost < leastCost) {
                    best = contract;
                    leastCost = cost;
                }
            }
        }
        return best;
    }

    public int lend(int contract, int amount, int ticks) throws IndexOutOfBoundsException, IllegalArgumentException {
        checkIndex(contract, world.plan.contracts);
        checkRange(amount, 1, MOST_AMOUNT);
        checkRange(ticks, 1, MOST_LENT_TICKS);
        int hindrance = world.hindranceOf(contract, amount);
        if (hindrance != 0) {
            return NO_LOAN - hindrance;
        }
        history.push(world.state);
        return world.state.loans.add(contract, amount, world.state.time + ticks);
    }

    public int recall(int loan) throws IndexOutOfBoundsException {
        checkIndex(loan, world.state.loans.number);
        if (!world.state.loans.isOpen(loan)) {
            return WRONG_STATE;
        }
        history.push(world.state);
        int contract = world.state.loans.contract[loan];
        world.state.loans.bringForward(loan, world.state.time + world.plan.notice[contract]);
        return world.state.loans.due[loan];
    }

    public int giveBack(int loan) throws IndexOutOfBoundsException {
        checkIndex(loan, world.state.loans.number);
        if (!world.state.loans.isOpen(loan)) {
            return WRONG_STATE;
        }
        history.push(world.state);
        world.state.loans.bringForward(loan, world.state.time);
        return world.owed(loan);
    }

    public int forgive(int loan) throws IndexOutOfBoundsException {
        checkIndex(loan, world.state.loans.number);
        if (!world.state.loans.isOpen(loan)) {
            return WRONG_STATE;
        }
        history.push(world.state);
        int owed = world.owed(loan);
        world.state.loans.state[loan] = FORGIVEN;
        return owed;
    }

    public int mend(int contract) throws IndexOutOfBoundsException {
        checkIndex(contract, world.plan.contracts);
        history.push(world.state);
        int broken = world.state.broken[contract];
        world.state.broken[contract] = 0;
        return broken;
    }

    public int charge(int pack, int amount) throws IndexOutOfBoundsException, IllegalArgumentException {
        checkIndex(pack, world.plan.packs);
        checkRange(amount, 1, MOST_AMOUNT);
        history.push(world.state);
        world.state.takenIn += amount;
        world.get(pack, amount);
        return world.state.charge[pack];
    }

    public int drain(int pack, int amount) throws IndexOutOfBoundsException, IllegalArgumentException {
        checkIndex(pack, world.plan.packs);
        checkRange(amount, 1, MOST_AMOUNT);
        history.push(world.state);
        int used = Math.min(amount, world.state.charge[pack]);
        world.state.used += used;
        world.give(pack, used);
        return used;
    }

    public int setReserve(int pack, int reserve) throws IndexOutOfBoundsException, IllegalArgumentException {
        checkIndex(pack, world.plan.packs);
        checkRange(reserve, 0, MOST_AMOUNT);
        history.push(world.state);
        int previous = world.state.reserve[pack];
        world.state.reserve[pack] = reserve;
        return previous;
    }

    public int setCable(int pack, int other, int loss, int rate)
            throws IndexOutOfBoundsException, IllegalArgumentException {
        checkIndex(pack, world.plan.packs);
        checkIndex(other, world.plan.packs);
        checkRange(loss, 0, MOST_LOSS);
        checkRange(rate, 1, MOST_RATE);
        int cable = world.plan.cableBetween(pack, other);
        if (cable == NONE) {
            return NONE;
        }
        history.push(world.state);
        int previous = world.state.loss[cable];
        world.state.loss[cable] = loss;
        world.state.rate[cable] = rate;
        return previous;
    }

    public int addTrip(int pack, int time, int need) throws IndexOutOfBoundsException, IllegalArgumentException {
        checkIndex(pack, world.plan.packs);
        checkRange(time, 0, LAST_TIME);
        checkRange(need, 1, MOST_AMOUNT);
        if (world.state.trips.number >= MOST_TRIPS) {
            return FULL;
        }
        if (time < world.state.time) {
            return TOO_LATE;
        }
        history.push(world.state);
        return world.state.trips.add(pack, time, need);
    }

    public int dropTrip(int trip) throws IndexOutOfBoundsException {
        checkIndex(trip, world.state.trips.number);
        if (world.state.trips.state[trip] != TO_COME) {
            return WRONG_STATE;
        }
        history.push(world.state);
        world.state.trips.remove(trip);
        return world.state.trips.number;
    }

    public int run(int ticks) throws IllegalArgumentException {
        checkRange(ticks, 1, Math.min(MOST_TICKS, LAST_TIME - world.state.time));
        history.push(world.state);
        world.passTicks(ticks);
        return world.state.time;
    }

    public int runToClosed(int loan, int most) throws IndexOutOfBoundsException, IllegalArgumentException {
        checkIndex(loan, world.state.loans.number);
        checkRange(most, 1, MOST_TICKS);
        history.push(world.state);
        int passed = world.passTicksToEnd(loan, Math.min(most, LAST_TIME - world.state.time));
        return world.state.loans.isOpen(loan) ? NONE : passed;
    }

    public int chargeIn(int pack, int ticks) throws IndexOutOfBoundsException, IllegalArgumentException {
        checkIndex(pack, world.plan.packs);
        checkRange(ticks, 1, MOST_FORESEEN);
        future.state.copyFrom(world.state);
        future.passTicks(ticks);
        return future.state.charge[pack];
    }

    public int missIn(int pack) throws IndexOutOfBoundsException {
        checkIndex(pack, world.plan.packs);
        int missedBefore = world.state.trips.numberOf(pack, MISSED);
        future.state.copyFrom(world.state);
        for (int passed = 1; passed <= MOST_FORESEEN; passed++) {
            future.passTick();
            if (future.state.trips.numberOf(pack, MISSED) > missedBefore) {
                return passed;
            }
        }
        return NONE;
    }

    public int endIn(int loan) throws IndexOutOfBoundsException {
        checkIndex(loan, world.state.loans.number);
        future.state.copyFrom(world.state);
        int passed = future.passTicksToEnd(loan, MOST_FORESEEN);
        return future.state.loans.isOpen(loan) ? NONE : passed;
    }

    public int endAs(int loan) throws IndexOutOfBoundsException {
        checkIndex(loan, world.state.loans.number);
        future.state.copyFrom(world.state);
        future.passTicksToEnd(loan, MOST_FORESEEN);
        return future.state.loans.state[loan];
    }

    public int lacks(int trip) throws IndexOutOfBoundsException {
        Trips trips = world.state.trips;
        checkIndex(trip, trips.number);
        int before = trips.time[trip] - world.state.time;
        if (trips.state[trip] != TO_COME || before >= MOST_FORESEEN) {
            return NONE;
        }
        future.state.copyFrom(world.state);
        future.passTicks(before);
        // In its own tick, the suns and the trips with lower numbers come first.
        future.shine();
        future.makeTrips(trip);
        return Math.max(0, trips.need[trip] - future.state.charge[trips.pack[trip]]);
    }

    public boolean isSafe(int contract, int amount, int ticks)
            throws IndexOutOfBoundsException, IllegalArgumentException {
        checkIndex(contract, world.plan.contracts);
        checkRange(amount, 1, MOST_AMOUNT);
        checkRange(ticks, 1, MOST_FORESEEN);
        if (world.hindranceOf(contract, amount) != 0) {
            return false;
        }
        int lender = world.plan.lender[contract];
        future.state.copyFrom(world.state);
        future.passTicks(ticks);
        int missedWithout = future.state.trips.numberOf(lender, MISSED);
        future.state.copyFrom(world.state);
        future.state.loans.add(contract, amount, world.state.time + ticks);
        future.passTicks(ticks);
        return future.state.trips.numberOf(lender, MISSED) <= missedWithout;
    }

    public int wearIn(int pack, int ticks) throws IndexOutOfBoundsException, IllegalArgumentException {
        checkIndex(pack, world.plan.packs);
        checkRange(ticks, 1, MOST_FORESEEN);
        future.state.copyFrom(world.state);
        future.passTicks(ticks);
        return future.state.points[pack] - world.state.points[pack];
    }

    public int neediest() {
        int best = NONE;
        for (int pack = 0; pack < world.plan.packs; pack++) {
            if (best == NONE || world.state.aboveReserve(pack) < world.state.aboveReserve(best)) {
                best = pack;
            }
        }
        return best;
    }

    public int richest() {
        int best = NONE;
        for (int pack = 0; pack < world.plan.packs; pack++) {
            if (best == NONE || world.state.aboveReserve(pack) > world.state.aboveReserve(best)) {
                best = pack;
            }
        }
        return best;
    }

    public int owes(int pack) throws IndexOutOfBoundsException {
        checkIndex(pack, world.plan.packs);
        return world.owedWhere(world.plan.borrower, pack);
    }

    public int isOwed(int pack) throws IndexOutOfBoundsException {
        checkIndex(pack, world.plan.packs);
        return world.owedWhere(world.plan.lender, pack);
    }

    public int undo() {
        if (history.number == 0) {
            return NONE;
        }
        history.popInto(world.state);
        return history.number;
    }

    public int saveSnapshot(int slot) throws IllegalArgumentException {
        checkRange(slot, 0, SLOTS - 1);
        snapshots[slot].copyFrom(world);
        saved[slot] = true;
        return world.state.time;
    }

    public int restoreSnapshot(int slot) throws IllegalArgumentException {
        checkRange(slot, 0, SLOTS - 1);
        if (!saved[slot]) {
            return NONE;
        }
        world.copyFrom(snapshots[slot]);
        history.clear();
        return world.state.time;
    }

    private static void checkIndex(int index, int number) {
        if (index < 0 || index >= number) {
            throw new IndexOutOfBoundsException();
        }
    }

    private static void checkRange(int value, int low, int high) {
        if (value < low || value > high) {
            throw new IllegalArgumentException();
        }
    }

    private static long sumOf(int[] row, int number) {
        long sum = 0;
        for (int i = 0; i < number && i < row.length; i++) {
            sum += row[i];
        }
        return sum;
    }

    private static void copyRow(int[] from, int[] to) {
        System.arraycopy(from, 0, to, 0, Math.min(from.length, to.length));
    }

    /** What a description fixes: no action changes it. */
    private static final class Plan {
        int fade = 100;
        int worth = 100;
        int packs;
        int curves;
        int suns;
        int cables;
        int contracts;
        final int[] capacity = new int[MOST_PACKS];
        final int[] curve = new int[MOST_PACKS];
        final int[] factors = new int[MOST_CURVES * QUARTERS];
        // All that is asked of suns is their sum by pack and hour.
        final int[] gains = new int[MOST_PACKS * HOURS];
        final int[] cableOfPair = new int[MOST_PACKS * MOST_PACKS];
        final int[] lender = new int[MOST_CONTRACTS];
        final int[] borrower = new int[MOST_CONTRACTS];
        final int[] limit = new int[MOST_CONTRACTS];
        final int[] notice = new int[MOST_CONTRACTS];
        final int[] grace = new int[MOST_CONTRACTS];

        Plan() {
            Arrays.fill(cableOfPair, NONE);
        }

        void clear() {
            packs = 0;
            curves = 0;
            suns = 0;
            cables = 0;
            contracts = 0;
            Arrays.fill(gains, 0);
            Arrays.fill(cableOfPair, NONE);
        }

        void copyFrom(Plan other) {
            fade = other.fade;
            worth = other.worth;
            packs = other.packs;
            curves = other.curves;
            suns = other.suns;
            cables = other.cables;
            contracts = other.contracts;
            copyRow(other.capacity, capacity);
            copyRow(other.curve, curve);
            copyRow(other.factors, factors);
            copyRow(other.gains, gains);
            copyRow(other.cableOfPair, cableOfPair);
            copyRow(other.lender, lender);
            copyRow(other.borrower, borrower);
            copyRow(other.limit, limit);
            copyRow(other.notice, notice);
            copyRow(other.grace, grace);
        }

        int factor(int pack, int quarter) {
            return curve[pack] == NONE ? 1 : factors[curve[pack] * QUARTERS + quarter];
        }

        int gain(int pack, int hour) {
            return gains[pack * HOURS + hour];
        }

        int cableBetween(int pack, int other) {
            return cableOfPair[pack * MOST_PACKS + other];
        }

        int cableOf(int contract) {
            return cableBetween(lender[contract], borrower[contract]);
        }

        void addPack(int packCapacity, int packCurve) {
            capacity[packs] = packCapacity;
            curve[packs] = packCurve;
            packs++;
        }

        void addCable(int pack, int other) {
            cableOfPair[pack * MOST_PACKS + other] = cables;
            cableOfPair[other * MOST_PACKS + pack] = cables;
            cables++;
        }

        void addSun(int pack, int from, int to, int gain) {
            for (int hour = from; hour <= to; hour++) {
                gains[pack * HOURS + hour] += gain;
            }
            suns++;
        }
    }

    private static final class Trips {
        int number;
        final int[] pack = new int[MOST_TRIPS];
        final int[] time = new int[MOST_TRIPS];
        final int[] need = new int[MOST_TRIPS];
        final int[] state = new int[MOST_TRIPS];

        void copyFrom(Trips other) {
            number = other.number;
            copyRow(other.pack, pack);
            copyRow(other.time, time);
            copyRow(other.need, need);
            copyRow(other.state, state);
        }

        int numberOf(int ofPack, int inState) {
            int found = 0;
            for (int trip = 0; trip < number; trip++) {
                if (pack[trip] == ofPack && state[trip] == inState) {
                    found++;
                }
            }
            return found;
        }

        int add(int ofPack, int atTime, int needed) {
            pack[number] = ofPack;
            time[number] = atTime;
            need[number] = needed;
            state[number] = TO_COME;
            return number++;
        }

        void remove(int trip) {
            number--;
            for (int i = trip; i < number; i++) {
                pack[i] = pack[i + 1];
                time[i] = time[i + 1];
                need[i] = need[i + 1];
                state[i] = state[i + 1];
            }
        }
    }

    private static final class Loans {
        int number;
        final int[] contract = new int[MOST_LOANS];
        final int[] amount = new int[MOST_LOANS];
        final int[] sent = new int[MOST_LOANS];
        final int[] points = new int[MOST_LOANS];
        final int[] gotBack = new int[MOST_LOANS];
        final int[] state = new int[MOST_LOANS];
        // The time from which on the loan is given back.
        final int[] due = new int[MOST_LOANS];

        void copyFrom(Loans other) {
            number = other.number;
            copyRow(other.contract, contract);
            copyRow(other.amount, amount);
            copyRow(other.sent, sent);
            copyRow(other.points, points);
            copyRow(other.gotBack, gotBack);
            copyRow(other.state, state);
            copyRow(other.due, due);
        }

        int add(int byContract, int lent, int dueTime) {
            contract[number] = byContract;
            amount[number] = lent;
            sent[number] = 0;
            points[number] = 0;
            gotBack[number] = 0;
            state[number] = SENDING;
            due[number] = dueTime;
            return number++;
        }

        boolean isOpen(int loan) {
            return state[loan] <= RETURNING;
        }

        void bringForward(int loan, int time) {
            if (time < due[loan]) {
                due[loan] = time;
            }
        }

        int openBy(int byContract) {
            int open = 0;
            for (int loan = 0; loan < number; loan++) {
                if (contract[loan] == byContract && isOpen(loan)) {
                    open++;
                }
            }
            return open;
        }

        int sentBy(int byContract) {
            int sum = 0;
            for (int loan = 0; loan < number; loan++) {
                if (contract[loan] == byContract) {
                    sum += sent[loan];
                }
            }
            return sum;
        }

        int gotBackBy(int byContract) {
            int sum = 0;
            for (int loan = 0; loan < number; loan++) {
                if (contract[loan] == byContract) {
                    sum += gotBack[loan];
                }
            }
            return sum;
        }
    }

    /** What ticks and actions change. */
    private static final class State {
        int time;
        long takenIn;
        long used;
        long lostForRoom;
        final int[] charge = new int[MOST_PACKS];
        final int[] points = new int[MOST_PACKS];
        final int[] reserve = new int[MOST_PACKS];
        final int[] loss = new int[MOST_CABLES];
        final int[] rate = new int[MOST_CABLES];
        final int[] sentNow = new int[MOST_CABLES];
        final int[] lostSoFar = new int[MOST_CABLES];
        final int[] broken = new int[MOST_CONTRACTS];
        final Trips trips = new Trips();
        final Loans loans = new Loans();

        void clear() {
            time = 0;
            takenIn = 0;
            used = 0;
            lostForRoom = 0;
            trips.number = 0;
            loans.number = 0;
        }

        void copyFrom(State other) {
            time = other.time;
            takenIn = other.takenIn;
            used = other.used;
            lostForRoom = other.lostForRoom;
            copyRow(other.charge, charge);
            copyRow(other.points, points);
            copyRow(other.reserve, reserve);
            copyRow(other.loss, loss);
            copyRow(other.rate, rate);
            copyRow(other.sentNow, sentNow);
            copyRow(other.lostSoFar, lostSoFar);
            copyRow(other.broken, broken);
            trips.copyFrom(other.trips);
            loans.copyFrom(other.loans);
        }

        void beginPack(int pack, int firstCharge) {
            charge[pack] = firstCharge;
            points[pack] = 0;
            reserve[pack] = 0;
            takenIn += firstCharge;
        }

        void beginCable(int cable, int firstLoss, int firstRate) {
            loss[cable] = firstLoss;
            rate[cable] = firstRate;
            sentNow[cable] = 0;
            lostSoFar[cable] = 0;
        }

        int aboveReserve(int pack) {
            return charge[pack] - reserve[pack];
        }

        int stillSends(int cable) {
            return rate[cable] - sentNow[cable];
        }

        /** Sends an amount through a cable; returns what reaches the other end. */
        int carry(int cable, int amount) {
            int lost = amount * loss[cable] / 1000;
            sentNow[cable] += amount;
            lostSoFar[cable] += lost;
            return amount - lost;
        }
    }

    /** A plan and a state, and how ticks change the state. */
    private static final class World {
        final Plan plan;
        final State state = new State();

        World(Plan plan) {
            this.plan = plan;
        }

        void copyFrom(World other) {
            plan.copyFrom(other.plan);
            state.copyFrom(other.state);
        }

        int roomOf(int pack) {
            int capacity = plan.capacity[pack];
            int least = (capacity + 1) / 2;
            int room = plan.fade < 1 ? least : capacity - state.points[pack] / plan.fade;
            return room > least ? room : least;
        }

        int quarterOf(int pack) {
            int room = roomOf(pack);
            int quarter = room < 1 ? 0 : QUARTERS * state.charge[pack] / room;
            return quarter < QUARTERS ? quarter : QUARTERS - 1;
        }

        private void loseAboveRoom(int pack) {
            int above = state.charge[pack] - roomOf(pack);
            if (above > 0) {
                state.charge[pack] -= above;
                state.lostForRoom += above;
            }
        }

        void get(int pack, int amount) {
            state.charge[pack] += amount;
            loseAboveRoom(pack);
        }

        /** Takes an amount that is there out of a pack; returns by how many points this wears it. */
        int give(int pack, int amount) {
            int wear = amount * plan.factor(pack, quarterOf(pack));
            state.charge[pack] -= amount;
            state.points[pack] = Math.min(MOST_POINTS, state.points[pack] + wear);
            loseAboveRoom(pack);
            return wear;
        }

        private int interestOf(int points) {
            int worth = plan.worth;
            return worth < 1 ? 0 : (points + worth - 1) / worth;
        }

        int interestAtOnce(int contract, int amount) {
            int lender = plan.lender[contract];
            int points = amount * plan.factor(lender, quarterOf(lender));
            return interestOf(Math.min(MOST_LOAN_POINTS, points));
        }

        int costAtOnce(int contract, int amount) {
            int cable = plan.cableOf(contract);
            int lost = cable == NONE ? 0 : amount * state.loss[cable] / 1000;
            return interestAtOnce(contract, amount) + lost;
        }

        int owed(int loan) {
            Loans loans = state.loans;
            if (!loans.isOpen(loan)) {
                return 0;
            }
            int owed = loans.sent[loan] + interestOf(loans.points[loan]) - loans.gotBack[loan];
            return owed > 0 ? owed : 0;
        }

        int owedWhere(int[] packOfContract, int pack) {
            int sum = 0;
            for (int loan = 0; loan < state.loans.number; loan++) {
                if (packOfContract[state.loans.contract[loan]] == pack) {
                    sum += owed(loan);
                }
            }
            return sum;
        }

        int outstanding(int contract) {
            Loans loans = state.loans;
            int sum = 0;
            for (int loan = 0; loan < loans.number; loan++) {
                if (loans.contract[loan] == contract) {
                    sum += owed(loan);
                    if (loans.state[loan] == SENDING) {
                        sum += loans.amount[loan] - loans.sent[loan];
                    }
                }
            }
            return sum;
        }

        int openLoans() {
            int open = 0;
            for (int loan = 0; loan < state.loans.number; loan++) {
                if (state.loans.isOpen(loan)) {
                    open++;
                }
            }
            return open;
        }

        int hindranceOf(int contract, int amount) {
            if (state.broken[contract] != 0) {
                return 1;
            }
            if (outstanding(contract) > plan.limit[contract] - amount) {
                return 2;
            }
            if (state.aboveReserve(plan.lender[contract]) < amount) {
                return 3;
            }
            return state.loans.number >= MOST_LOANS ? 4 : 0;
        }

        void passTicks(int ticks) {
            for (int passed = 0; passed < ticks; passed++) {
                passTick();
            }
        }

        /** Lets ticks pass while a loan is open; returns how many have passed. */
        int passTicksToEnd(int loan, int most) {
            int passed = 0;
            while (passed < most && state.loans.isOpen(loan)) {
                passTick();
                passed++;
            }
            return passed;
        }

        void passTick() {
            Arrays.fill(state.sentNow, 0);
            shine();
            makeTrips(state.trips.number);
            for (int loan = 0; loan < state.loans.number; loan++) {
                if (state.loans.isOpen(loan) && state.time >= state.loans.due[loan]) {
                    state.loans.state[loan] = RETURNING;
                }
                if (state.loans.state[loan] == SENDING) {
                    sendOn(loan);
                } else if (state.loans.state[loan] == RETURNING) {
                    sendBack(loan);
                }
            }
            state.time++;
        }

        void shine() {
            int hour = state.time % HOURS;
            for (int pack = 0; pack < plan.packs; pack++) {
                int gain = plan.gain(pack, hour);
                if (gain > 0) {
                    state.takenIn += gain;
                    get(pack, gain);
                }
            }
        }

        /** Makes or misses the trips of the present time that have numbers below an end. */
        void makeTrips(int end) {
            Trips trips = state.trips;
            for (int trip = 0; trip < end; trip++) {
                if (trips.time[trip] != state.time || trips.state[trip] != TO_COME) {
                    continue;
                }
                int need = trips.need[trip];
                if (state.charge[trips.pack[trip]] >= need) {
                    trips.state[trip] = MADE;
                    state.used += need;
                    give(trips.pack[trip], need);
                } else {
                    trips.state[trip] = MISSED;
                }
            }
        }

        private void sendOn(int loan) {
            Loans loans = state.loans;
            int contract = loans.contract[loan];
            int lender = plan.lender[contract];
            int cable = plan.cableOf(contract);
            if (cable == NONE) {
                return;
            }
            int most = Math.min(Math.max(0, state.aboveReserve(lender)), state.stillSends(cable));
            int amount = Math.min(loans.amount[loan] - loans.sent[loan], most);
            int wear = give(lender, amount);
            loans.points[loan] = Math.min(MOST_LOAN_POINTS, loans.points[loan] + wear);
            get(plan.borrower[contract], state.carry(cable, amount));
            loans.sent[loan] += amount;
            if (loans.sent[loan] >= loans.amount[loan]) {
                loans.state[loan] = RUNNING;
            }
        }

        private void sendBack(int loan) {
            Loans loans = state.loans;
            int contract = loans.contract[loan];
            int borrower = plan.borrower[contract];
            int cable = plan.cableOf(contract);
            if (cable == NONE) {
                return;
            }
            int most = Math.min(state.charge[borrower], state.stillSends(cable));
            int amount = (int) Math.min(sentToReturn(owed(loan), state.loss[cable]), most);
            give(borrower, amount);
            int arrived = state.carry(cable, amount);
            get(plan.lender[contract], arrived);
            loans.gotBack[loan] += arrived;
            if (owed(loan) == 0) {
                loans.state[loan] = CLOSED;
            } else if (state.time - loans.due[loan] >= plan.grace[contract]) {
                loans.state[loan] = BROKEN;
                state.broken[contract] = 1;
            }
        }

        /** What must be sent for an amount to arrive, with a loss per 1000. */
        private static long sentToReturn(int amount, int loss) {
            int arriving = 1000 - loss;
            return arriving < 1 ? 0 : (amount * 1000L + arriving - 1) / arriving;
        }
    }

    /** The states before the latest actions, in a ring. */
    private static final class History {
        int number;
        private int next;
        private final State[] states = new State[MOST_ACTIONS];

        History() {
            for (int i = 0; i < MOST_ACTIONS; i++) {
                states[i] = new State();
            }
        }

        void clear() {
            number = 0;
        }

        void push(State state) {
            states[next].copyFrom(state);
            next = (next + 1) % MOST_ACTIONS;
            number = Math.min(number + 1, MOST_ACTIONS);
        }

        void popInto(State state) {
            next = (next + MOST_ACTIONS - 1) % MOST_ACTIONS;
            number--;
            state.copyFrom(states[next]);
        }
    }

    /** The input buffer, and the reading of it as a description into a draft. */
    private static final class Reader {
        private static final int ILL_PLACED = 1;
        private static final int OUT_OF_RANGE = 2;
        private static final int UNFIT_PACK = 3;
        private static final int TOO_MANY = 4;

        private static final int PACKS = 0;
        private static final int CURVE = 1;
        private static final int PACK = 2;
        private static final int CABLE = 3;
        private static final int SUN = 4;
        private static final int TRIP = 5;
        private static final int CONTRACT = 6;

        // No range goes so far: digits behind it need not be counted.
        private static final int HUGE = 1000000;

        final World draft = new World(new Plan());
        int error;
        int errorAt;
        int statement;
        private final byte[] text = new byte[MOST_BYTES];
        private int length;
        private int at;
        private int numberAt;

        int takeIn(long bytes) {
            int more = 0;
            for (int shift = 56; shift >= 0; shift -= 8) {
                if ((byte) (bytes >>> shift) != 0) {
                    more++;
                }
            }
            if (length + more > MOST_BYTES) {
                return FULL;
            }
            for (int shift = 56; shift >= 0; shift -= 8) {
                byte next = (byte) (bytes >>> shift);
                if (next != 0) {
                    text[length] = next;
                    length++;
                }
            }
            return length;
        }

        void readText() {
            draft.plan.clear();
            draft.state.clear();
            error = 0;
            errorAt = 0;
            statement = 0;
            at = 0;
            readStatement();
            for (int left = length; left > 0 && passSemicolon(); left--) {
                statement++;
                readStatement();
            }
            length = 0;
        }

        private void fail(int kind, int position) {
            if (error == 0) {
                error = kind;
                errorAt = position;
            }
        }

        private void skipSpaces() {
            while (at < length && text[at] == ' ') {
                at++;
            }
        }

        /** Goes behind the next semicolon; false at the end of the text or if there is an error. */
        private boolean passSemicolon() {
            if (error != 0) {
                return false;
            }
            skipSpaces();
            if (at >= length) {
                return false;
            }
            if (text[at] != ';') {
                fail(ILL_PLACED, at);
                return false;
            }
            at++;
            return true;
        }

        private void readStatement() {
            skipSpaces();
            int start = at;
            while (at < length && text[at] >= 'a' && text[at] <= 'z') {
                at++;
            }
            int kind = kindOfWord(start, at);
            if (kind == NONE || (kind == PACKS) != (statement == 0)) {
                fail(ILL_PLACED, start);
                return;
            }
            if (isFull(kind)) {
                fail(TOO_MANY, start);
                return;
            }
            switch (kind) {
                case PACKS: readPacks(); break;
                case CURVE: readCurve(); break;
                case PACK: readPack(); break;
                case CABLE: readCable(); break;
                case SUN: readSun(); break;
                case TRIP: readTrip(); break;
                default: readContract(); break;
            }
        }

        private int kindOfWord(int start, int end) {
            if (isWord(start, end, "packs")) {
                return PACKS;
            }
            if (isWord(start, end, "curve")) {
                return CURVE;
            }
            if (isWord(start, end, "pack")) {
                return PACK;
            }
            if (isWord(start, end, "cable")) {
                return CABLE;
            }
            if (isWord(start, end, "sun")) {
                return SUN;
            }
            if (isWord(start, end, "trip")) {
                return TRIP;
            }
            return isWord(start, end, "contract") ? CONTRACT : NONE;
        }

        private boolean isWord(int start, int end, String word) {
            if (end - start != word.length()) {
                return false;
            }
            for (int i = 0; i < word.length(); i++) {
                if (text[start + i] != word.charAt(i)) {
                    return false;
                }
            }
            return true;
        }

        private boolean isFull(int kind) {
            switch (kind) {
                case CURVE: return draft.plan.curves >= MOST_CURVES;
                case PACK: return draft.plan.packs >= MOST_PACKS;
                case CABLE: return draft.plan.cables >= MOST_CABLES;
                case SUN: return draft.plan.suns >= MOST_SUNS;
                case TRIP: return draft.state.trips.number >= MOST_TRIPS;
                case CONTRACT: return draft.plan.contracts >= MOST_CONTRACTS;
                default: return false;
            }
        }

        private boolean digitIsNext() {
            return at < length && text[at] >= '0' && text[at] <= '9';
        }

        /** Reads a number of a range; NONE if there is an error, here or before. */
        private int nextNumber(int low, int high) {
            if (error != 0) {
                return NONE;
            }
            skipSpaces();
            numberAt = at;
            int value = 0;
            while (digitIsNext()) {
                if (value < HUGE) {
                    value = value * 10 + (text[at] - '0');
                }
                at++;
            }
            if (at == numberAt) {
                fail(ILL_PLACED, at);
                return NONE;
            }
            if (value < low || value > high) {
                fail(OUT_OF_RANGE, numberAt);
                return NONE;
            }
            return value;
        }

        private int nextPack() {
            return nextNumber(0, draft.plan.packs - 1);
        }

        private void readPacks() {
            int fade = nextNumber(1, 10000);
            int worth = nextNumber(1, 10000);
            if (error == 0) {
                draft.plan.fade = fade;
                draft.plan.worth = worth;
            }
        }

        private void readCurve() {
            int row = draft.plan.curves * QUARTERS;
            for (int quarter = 0; quarter < QUARTERS; quarter++) {
                draft.plan.factors[row + quarter] = nextNumber(0, 1000);
            }
            draft.plan.curves++;
        }

        private void readPack() {
            int capacity = nextNumber(2, MOST_AMOUNT);
            int charge = nextNumber(0, capacity);
            int curve = NONE;
            skipSpaces();
            if (digitIsNext()) {
                curve = nextNumber(0, draft.plan.curves - 1);
            }
            if (error == 0) {
                draft.state.beginPack(draft.plan.packs, charge);
                draft.plan.addPack(capacity, curve);
            }
        }

        private void readCable() {
            int pack = nextPack();
            int other = nextPack();
            if (error == 0 && (other == pack || draft.plan.cableBetween(pack, other) != NONE)) {
                fail(UNFIT_PACK, numberAt);
            }
            int loss = nextNumber(0, MOST_LOSS);
            int rate = nextNumber(1, MOST_RATE);
            if (error == 0) {
                draft.state.beginCable(draft.plan.cables, loss, rate);
                draft.plan.addCable(pack, other);
            }
        }

        private void readSun() {
            int pack = nextPack();
            int from = nextNumber(0, HOURS - 1);
            int to = nextNumber(from, HOURS - 1);
            int gain = nextNumber(1, 10000);
            if (error == 0) {
                draft.plan.addSun(pack, from, to, gain);
            }
        }

        private void readTrip() {
            int pack = nextPack();
            int time = nextNumber(0, LAST_TIME);
            int need = nextNumber(1, MOST_AMOUNT);
            if (error == 0) {
                draft.state.trips.add(pack, time, need);
            }
        }

        private void readContract() {
            int lender = nextPack();
            int borrower = nextPack();
            if (error == 0 && (borrower == lender || draft.plan.cableBetween(lender, borrower) == NONE)) {
                fail(UNFIT_PACK, numberAt);
            }
            int limit = nextNumber(1, MOST_AMOUNT);
            int notice = nextNumber(0, 99);
            int grace = nextNumber(0, 99);
            if (error == 0) {
                int contract = draft.plan.contracts;
                draft.plan.lender[contract] = lender;
                draft.plan.borrower[contract] = borrower;
                draft.plan.limit[contract] = limit;
                draft.plan.notice[contract] = notice;
                draft.plan.grace[contract] = grace;
                draft.state.broken[contract] = 0;
                draft.plan.contracts++;
            }
        }
    }
}
