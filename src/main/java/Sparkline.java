import java.util.ArrayList;

/** Harnesses and boards put together. What each call promises stands in ../shared/DOC.md. */
public final class Sparkline {
    public static final int NONE = -1;
    public static final int GOOD = 0, COLD = 1, BURNT = 2, HIDDEN = 3;

    private static final int NODES = 8;
    private static final int MOST_BUNDLES = 16;
    private static final int MOST_LENGTH = 999;
    private static final int MOST_ROOM = 24;
    private static final int MOST_CONNECTORS = 8;
    private static final int MOST_CAVITIES = 8;
    private static final int MOST_KEY = 9;
    private static final int MOST_WIRES = 24;
    private static final int OPTIONS = 8;
    private static final int ALL_OPTIONS = 255;
    private static final int MOST_ORDERS = 5;
    private static final int MOST_MANY = 99;
    private static final int MOST_FORCE = 9999;
    private static final int PARTS = 6;
    private static final int MOST_REELS = 12;
    private static final int MOST_LIFE = 5000;
    private static final int MOST_BOARDS = 12;
    private static final int SLOTS = 8;
    private static final int ALL_SLOTS = 255;
    private static final int ZONES = 4;
    private static final int MOST_HEAT = 400;
    private static final int MOST_PASS = 999;
    private static final int LAST_MINUTE = 9999;

    private final Harness harness;
    private final Orders orders;
    private final Crimper crimper;
    private final Oven oven;
    private final ArrayList<Reel> reels;
    private final ArrayList<Board> boards;
    /** Bit s for the slot s. */
    private int covered;
    private int minute;

    public Sparkline() {
        harness = new Harness();
        orders = new Orders();
        crimper = new Crimper();
        oven = new Oven();
        reels = new ArrayList<Reel>();
        boards = new ArrayList<Board>();
        covered = ALL_SLOTS;
        minute = 0;
    }

    // ---- the harness

    public int bundle(int node, int other, int length, int room)
            throws IndexOutOfBoundsException, IllegalArgumentException, IllegalStateException {
        checkIndex(isIndex(node, NODES) && isIndex(other, NODES));
        checkArgument(node != other && isWithin(length, 1, MOST_LENGTH) && isWithin(room, 1, MOST_ROOM));
        checkState(harness.bundles.size() < MOST_BUNDLES);
        return harness.addBundle(node, other, length, room);
    }

    public int connector(int node, int cavities, int key)
            throws IndexOutOfBoundsException, IllegalArgumentException, IllegalStateException {
        checkIndex(isIndex(node, NODES));
        checkArgument(isWithin(cavities, 1, MOST_CAVITIES) && isWithin(key, 0, MOST_KEY));
        checkState(harness.connectors.size() < MOST_CONNECTORS);
        return harness.addConnector(node, cavities, key);
    }

    public int mates(int connector, int other)
            throws IndexOutOfBoundsException, IllegalArgumentException, IllegalStateException {
        Connector one = connectorAt(connector);
        Connector two = connectorAt(other);
        checkArgument(connector != other);
        checkState(one.fits(two) && one.mate == NONE && two.mate == NONE);
        one.mate = other;
        two.mate = connector;
        return harness.pairsThatFitWrong();
    }

    public int wire(int connector, int cavity, int other, int others, int option)
            throws IndexOutOfBoundsException, IllegalArgumentException, IllegalStateException {
        Connector one = connectorAt(connector);
        Connector two = connectorAt(other);
        checkIndex(isIndex(cavity, one.cavities) && isIndex(others, two.cavities));
        checkArgument(connector != other && isIndex(option, OPTIONS));
        checkState(one.isFree(cavity) && two.isFree(others));
        checkState(harness.wires.size() < MOST_WIRES && harness.hasWay(one.node, two.node));
        return harness.addWire(new Wire(one, cavity, two, others, option));
    }

    public int pull(int wire) throws IndexOutOfBoundsException, IllegalStateException {
        Wire pulled = wireAt(wire);
        checkState(!pulled.isPulled);
        pulled.takeOut();
        return pulled.length;
    }

    public int ofWire(int wire, int place) throws IndexOutOfBoundsException {
        Wire told = wireAt(wire);
        checkIndex(place >= NONE);
        if (place == NONE) {
            return told.isPulled ? 0 : told.length;
        }
        return told.isPulled ? NONE : told.bundleAt(place);
    }

    public int weight(int options) throws IllegalArgumentException {
        checkArgument(isWithin(options, 0, ALL_OPTIONS));
        return harness.weightOf(options);
    }

    public int order(int options, int many) throws IllegalArgumentException, IllegalStateException {
        checkArgument(isWithin(options, 0, ALL_OPTIONS) && isWithin(many, 1, MOST_MANY));
        checkState(orders.count < MOST_ORDERS);
        return orders.add(options, many);
    }

    public int least(int families) throws IllegalArgumentException {
        checkArgument(isWithin(families, 1, MOST_ORDERS));
        return orders.leastByChoice(harness, families);
    }

    public int leastAnew(int families) throws IllegalArgumentException {
        checkArgument(isWithin(families, 1, MOST_ORDERS));
        return orders.leastByTable(harness, families);
    }

    // ---- crimps, reels

    public boolean crimp(int force) throws IllegalArgumentException {
        checkArgument(isWithin(force, 1, MOST_FORCE));
        return crimper.judge(force);
    }

    public int crimps(int what) throws IllegalArgumentException {
        checkArgument(isWithin(what, 0, 2));
        if (what == 0) {
            return crimper.count;
        }
        return what == 1 ? crimper.good : crimper.window();
    }

    public int reel(int part, int many, int life)
            throws IndexOutOfBoundsException, IllegalArgumentException, IllegalStateException {
        checkIndex(isIndex(part, PARTS));
        checkArgument(isWithin(many, 1, MOST_MANY) && isWithin(life, 1, MOST_LIFE));
        checkState(reels.size() < MOST_REELS);
        reels.add(new Reel(part, many, life));
        return reels.size() - 1;
    }

    public int open(int reel, boolean isBaked) throws IndexOutOfBoundsException, IllegalStateException {
        Reel opened = reelAt(reel);
        checkState(isBaked || !opened.isOpen);
        opened.beginClock(minute);
        return opened.clockAt(minute);
    }

    public int ofReel(int reel, int what) throws IndexOutOfBoundsException {
        Reel told = reelAt(reel);
        checkIndex(isWithin(what, 0, 2));
        if (what == 0) {
            return told.part;
        }
        return what == 1 ? told.left : told.clockAt(minute);
    }

    // ---- boards

    public int board() throws IllegalStateException {
        checkState(boards.size() < MOST_BOARDS);
        boards.add(new Board());
        return boards.size() - 1;
    }

    public int place(int board, int slot, int reel) throws IndexOutOfBoundsException, IllegalStateException {
        Board placed = boardAt(board);
        Slot filled = placed.slotAt(slot);
        Reel source = reelAt(reel);
        checkState(!placed.isSoldered && !filled.hasPart() && source.gives(minute));
        filled.fill(reel, source, minute);
        return source.left;
    }

    public void limits(boolean isZone, int number, int low, int high)
            throws IndexOutOfBoundsException, IllegalArgumentException {
        checkIndex(isIndex(number, isZone ? ZONES : PARTS));
        checkArgument(isWithin(low, 0, MOST_HEAT) && (isZone || isWithin(high, low, MOST_HEAT)));
        if (isZone) {
            oven.heats.put(number, low);
        } else {
            oven.lows.put(number, low);
            oven.highs.put(number, high);
        }
    }

    public int solder(int board) throws IndexOutOfBoundsException, IllegalStateException {
        Board soldered = boardAt(board);
        checkState(!soldered.isSoldered);
        return soldered.goThrough(oven);
    }

    public void flaw(int board, int slot) throws IndexOutOfBoundsException, IllegalStateException {
        Board told = boardAt(board);
        Slot flawed = told.slotAt(slot);
        checkState(told.isSoldered && !told.isShipped && flawed.hasPart());
        flawed.fault = HIDDEN;
        flawed.isFound = false;
    }

    public int cover(int slot, boolean isCovered) throws IndexOutOfBoundsException {
        checkIndex(isIndex(slot, SLOTS));
        covered = isCovered ? covered | 1 << slot : covered & ~(1 << slot);
        return Integer.bitCount(covered);
    }

    public int test(int board) throws IndexOutOfBoundsException, IllegalStateException {
        Board tested = boardAt(board);
        checkState(tested.isSoldered && !tested.isShipped);
        tested.findFaults(covered);
        return tested.faultsFound(true);
    }

    public int repair(int board, int slot, int reel) throws IndexOutOfBoundsException, IllegalStateException {
        Board repaired = boardAt(board);
        Slot mended = repaired.slotAt(slot);
        Reel source = reelAt(reel);
        checkState(mended.isFound && !mended.isRepaired);
        checkState(source.part == mended.part && source.gives(minute));
        mended.fill(reel, source, minute);
        mended.mend();
        repaired.isTested = false;
        return repaired.faultsFound(true);
    }

    public int ship(int board) throws IndexOutOfBoundsException, IllegalStateException {
        Board shipped = boardAt(board);
        checkState(!shipped.isShipped && shipped.isTested && shipped.faultsFound(true) == 0);
        shipped.isShipped = true;
        return shipped.faultsFound(false);
    }

    public int pass(int minutes) throws IllegalArgumentException, IllegalStateException {
        checkArgument(isWithin(minutes, 1, MOST_PASS));
        checkState(minute + minutes <= LAST_MINUTE);
        minute += minutes;
        return minute;
    }

    public int ofSlot(int board, int slot, int what) throws IndexOutOfBoundsException {
        Slot told = boardAt(board).slotAt(slot);
        checkIndex(isWithin(what, 0, 3));
        if (what == 0) {
            return told.reel;
        }
        if (what == 1) {
            return told.minute;
        }
        if (what == 2) {
            return told.isFound ? told.fault : GOOD;
        }
        return told.isRepaired ? 1 : 0;
    }

    public int jointAnew(int board, int slot) throws IndexOutOfBoundsException {
        Board told = boardAt(board);
        Slot joined = told.slotAt(slot);
        return told.isSoldered && joined.hasPart() ? joined.jointFor(told.peak()) : NONE;
    }

    public int recall(int reel) throws IndexOutOfBoundsException {
        checkIndex(isIndex(reel, reels.size()));
        int recalled = 0;
        for (int number = 0; number < boards.size(); number++) {
            Board board = boards.get(number);
            if (board.isShipped && board.hasPartOf(reel)) {
                recalled++;
            }
        }
        return recalled;
    }

    // ---- what a call refuses

    private static void checkIndex(boolean isRight) {
        if (!isRight) {
            throw new IndexOutOfBoundsException();
        }
    }

    private static void checkArgument(boolean isRight) {
        if (!isRight) {
            throw new IllegalArgumentException();
        }
    }

    private static void checkState(boolean isRight) {
        if (!isRight) {
            throw new IllegalStateException();
        }
    }

    private static boolean isWithin(int value, int low, int high) {
        return value >= low && value <= high;
    }

    private static boolean isIndex(int number, int count) {
        return number >= 0 && number < count;
    }

    private static int divideDown(int dividend, int divisor) {
        return divisor < 1 ? 0 : Math.floorDiv(dividend, divisor);
    }

    private Connector connectorAt(int number) {
        if (!isIndex(number, harness.connectors.size())) {
            throw new IndexOutOfBoundsException();
        }
        return harness.connectors.get(number);
    }

    private Wire wireAt(int number) {
        if (!isIndex(number, harness.wires.size())) {
            throw new IndexOutOfBoundsException();
        }
        return harness.wires.get(number);
    }

    private Reel reelAt(int number) {
        if (!isIndex(number, reels.size())) {
            throw new IndexOutOfBoundsException();
        }
        return reels.get(number);
    }

    private Board boardAt(int number) {
        if (!isIndex(number, boards.size())) {
            throw new IndexOutOfBoundsException();
        }
        return boards.get(number);
    }

    /** A row of numbers, 0 at first, that looks at each index before it uses it. */
    private static final class Row {
        private final int[] cells;

        Row(int length) {
            cells = new int[length < 0 ? 0 : length];
        }

        int at(int index) {
            return index >= 0 && index < cells.length ? cells[index] : 0;
        }

        void put(int index, int value) {
            if (index >= 0 && index < cells.length) {
                cells[index] = value;
            }
        }

        void fill(int value) {
            for (int index = 0; index < cells.length; index++) {
                cells[index] = value;
            }
        }

        void copyFrom(Row other) {
            for (int index = 0; index < cells.length; index++) {
                cells[index] = other.at(index);
            }
        }
    }

    private static final class Bundle {
        /** One bundle counts less than the shortest length: of ways as long, that of fewer bundles costs less. */
        private static final int LENGTH_COST = 16;

        final int number;
        final int node;
        final int other;
        final int length;
        int room;

        Bundle(int number, int node, int other, int length, int room) {
            this.number = number;
            this.node = node;
            this.other = other;
            this.length = length;
            this.room = room;
        }

        int cost() {
            return length * LENGTH_COST + 1;
        }

        /** The node at its other end, NONE if it does not end at this one. */
        int across(int from) {
            if (from == node) {
                return other;
            }
            return from == other ? node : NONE;
        }
    }

    private static final class Connector {
        final int node;
        final int cavities;
        final int key;
        int mate = NONE;
        /** Bit c for the cavity c. */
        private int taken;

        Connector(int node, int cavities, int key) {
            this.node = node;
            this.cavities = cavities;
            this.key = key;
        }

        boolean fits(Connector other) {
            return cavities == other.cavities && key == other.key;
        }

        boolean isFree(int cavity) {
            return (taken & 1 << cavity) == 0;
        }

        void take(int cavity) {
            taken |= 1 << cavity;
        }

        void release(int cavity) {
            taken &= ~(1 << cavity);
        }
    }

    private static final class Wire {
        final Connector one;
        final int cavity;
        final Connector two;
        final int others;
        final int option;
        int length;
        boolean isPulled;
        private final ArrayList<Bundle> way;

        Wire(Connector one, int cavity, Connector two, int others, int option) {
            this.one = one;
            this.cavity = cavity;
            this.two = two;
            this.others = others;
            this.option = option;
            way = new ArrayList<Bundle>();
        }

        void putIn() {
            one.take(cavity);
            two.take(others);
        }

        void goBy(Bundle bundle) {
            way.add(bundle);
            bundle.room--;
            length += bundle.length;
        }

        void takeOut() {
            isPulled = true;
            one.release(cavity);
            two.release(others);
            for (int step = 0; step < way.size(); step++) {
                way.get(step).room++;
            }
        }

        int bundleAt(int step) {
            return step >= 0 && step < way.size() ? way.get(step).number : NONE;
        }
    }

    private static final class Harness {
        /** Above the cost of any way, and far enough below the greatest int to add one to it. */
        private static final int NO_WAY = 1000000;

        final ArrayList<Bundle> bundles = new ArrayList<Bundle>();
        final ArrayList<Connector> connectors = new ArrayList<Connector>();
        final ArrayList<Wire> wires = new ArrayList<Wire>();
        /** The cost of the cheapest way from each node to the goal that was looked for last. */
        private final Row costs = new Row(NODES);

        int addBundle(int node, int other, int length, int room) {
            bundles.add(new Bundle(bundles.size(), node, other, length, room));
            return bundles.size() - 1;
        }

        int addConnector(int node, int cavities, int key) {
            connectors.add(new Connector(node, cavities, key));
            return connectors.size() - 1;
        }

        int pairsThatFitWrong() {
            int pairs = 0;
            for (int low = 0; low < connectors.size(); low++) {
                Connector one = connectors.get(low);
                for (int high = low + 1; high < connectors.size(); high++) {
                    if (one.fits(connectors.get(high)) && one.mate != high) {
                        pairs++;
                    }
                }
            }
            return pairs;
        }

        boolean hasWay(int from, int goal) {
            findCosts(goal);
            return costs.at(from) < NO_WAY;
        }

        private void findCosts(int goal) {
            costs.fill(NO_WAY);
            costs.put(goal, 0);
            // The cheapest way meets no node twice: it has fewer bundles than there are nodes.
            for (int round = 1; round < NODES; round++) {
                for (int number = 0; number < bundles.size(); number++) {
                    Bundle bundle = bundles.get(number);
                    if (bundle.room > 0) {
                        lowerCost(bundle.node, bundle);
                        lowerCost(bundle.other, bundle);
                    }
                }
            }
        }

        private void lowerCost(int node, Bundle bundle) {
            costs.put(node, Math.min(costs.at(node), bundle.cost() + costs.at(bundle.across(node))));
        }

        int addWire(Wire wire) {
            wire.putIn();
            layAlong(wire);
            wires.add(wire);
            return wires.size() - 1;
        }

        private void layAlong(Wire wire) {
            findCosts(wire.two.node);
            int node = wire.one.node;
            for (int step = 1; step < NODES && node != wire.two.node; step++) {
                Bundle next = lowestOnward(node);
                if (next == null) {
                    return;
                }
                wire.goBy(next);
                node = next.across(node);
            }
        }

        /** The bundle of the lowest number with which a cheapest way goes on from a node. */
        private Bundle lowestOnward(int node) {
            for (int number = 0; number < bundles.size(); number++) {
                Bundle bundle = bundles.get(number);
                int across = bundle.across(node);
                if (bundle.room > 0 && across != NONE && bundle.cost() + costs.at(across) == costs.at(node)) {
                    return bundle;
                }
            }
            return null;
        }

        int weightOf(int options) {
            int weight = 0;
            for (int number = 0; number < wires.size(); number++) {
                Wire wire = wires.get(number);
                if (!wire.isPulled && (options & 1 << wire.option) != 0) {
                    weight += wire.length;
                }
            }
            return weight;
        }
    }

    /** Sets of orders are numbers: bit o for the order o. */
    private static final class Orders {
        /** Above any weight, and far enough below the greatest int to add one to it. */
        private static final int NO_WEIGHT = 1000000000;
        private static final int SETS = 1 << MOST_ORDERS;

        private final Row options = new Row(MOST_ORDERS);
        private final Row many = new Row(MOST_ORDERS);
        /** The weight of each set of orders built as one family, found at the beginning of each question. */
        private final Row weights = new Row(SETS);
        /** The least weight of each set of orders with the families so far. */
        private final Row leasts = new Row(SETS);
        int count;

        int add(int ofOptions, int howMany) {
            options.put(count, ofOptions);
            many.put(count, howMany);
            count++;
            return count - 1;
        }

        private int allOrders() {
            return (1 << count) - 1;
        }

        private void weighSets(Harness harness) {
            int all = allOrders();
            for (int set = 0; set <= all; set++) {
                weights.put(set, weightAsOne(harness, set));
            }
        }

        private int weightAsOne(Harness harness, int set) {
            int together = 0;
            int harnesses = 0;
            for (int number = 0; number < count; number++) {
                if ((set & 1 << number) != 0) {
                    together |= options.at(number);
                    harnesses += many.at(number);
                }
            }
            return harness.weightOf(together) * harnesses;
        }

        int leastByChoice(Harness harness, int families) {
            weighSets(harness);
            return leastOfRest(weights, allOrders(), families);
        }

        /** Chooses the family of the lowest order of the rest; one family fewer is left at each level. */
        private static int leastOfRest(Row weights, int rest, int families) {
            if (rest == 0) {
                return 0;
            }
            if (families < 1) {
                return NO_WEIGHT;
            }
            int lowest = rest & -rest;
            int least = NO_WEIGHT;
            for (int family = lowest; family <= rest; family++) {
                if ((family & ~rest) == 0 && (family & lowest) != 0) {
                    int others = leastOfRest(weights, rest & ~family, families - 1);
                    least = Math.min(least, weights.at(family) + others);
                }
            }
            return least;
        }

        int leastByTable(Harness harness, int families) {
            weighSets(harness);
            leasts.fill(NO_WEIGHT);
            leasts.put(0, 0);
            for (int family = 1; family <= families; family++) {
                addFamily();
            }
            return leasts.at(allOrders());
        }

        private void addFamily() {
            // Downwards: the smaller sets still tell their weight with one family fewer.
            for (int set = allOrders(); set >= 0; set--) {
                leasts.put(set, leastWithOneMore(set));
            }
        }

        private int leastWithOneMore(int set) {
            int least = leasts.at(set);
            for (int family = 1; family <= set; family++) {
                if ((family & ~set) == 0) {
                    least = Math.min(least, weights.at(family) + leasts.at(set & ~family));
                }
            }
            return least;
        }
    }

    private static final class Crimper {
        private static final int FIRST = 3;
        private static final int LATEST = 8;

        int count;
        int good;
        /** The forces of the latest good crimps; the oldest one is put over by the next. */
        private final Row latest = new Row(LATEST);
        private int next;

        boolean judge(int force) {
            boolean isGood = good < FIRST || Math.abs(force - window()) * 10 <= window();
            count++;
            if (isGood) {
                good++;
                latest.put(next, force);
                next = next + 1 < LATEST ? next + 1 : 0;
            }
            return isGood;
        }

        int window() {
            if (good < FIRST) {
                return 0;
            }
            int sum = 0;
            for (int index = 0; index < LATEST; index++) {
                sum += latest.at(index);
            }
            return divideDown(sum, Math.min(good, LATEST));
        }
    }

    private static final class Reel {
        final int part;
        private final int life;
        int left;
        boolean isOpen;
        private int begun;

        Reel(int part, int many, int life) {
            this.part = part;
            this.life = life;
            left = many;
        }

        void beginClock(int minute) {
            isOpen = true;
            begun = minute;
        }

        int clockAt(int minute) {
            int rest = life - (minute - begun);
            return isOpen && rest >= 0 ? rest : NONE;
        }

        boolean gives(int minute) {
            return left > 0 && clockAt(minute) != NONE;
        }
    }

    private static final class Slot {
        int part = NONE;
        int reel = NONE;
        int minute = NONE;
        int fault = GOOD;
        boolean isFound;
        boolean isRepaired;
        /** The limits of the part as they were in the oven. */
        private int low;
        private int high;

        boolean hasPart() {
            return part != NONE;
        }

        void fill(int number, Reel source, int now) {
            source.left--;
            part = source.part;
            reel = number;
            minute = now;
        }

        void join(Oven oven, int peak) {
            low = oven.lows.at(part);
            high = oven.highs.at(part);
            fault = jointFor(peak);
        }

        int jointFor(int peak) {
            if (low > peak) {
                return COLD;
            }
            return high < peak ? BURNT : GOOD;
        }

        void mend() {
            fault = GOOD;
            isFound = false;
            isRepaired = true;
        }
    }

    private static final class Board {
        /** Its mass without parts. */
        private static final int BARE_MASS = 2;

        boolean isSoldered;
        /** Whether it was tested, and not repaired since. */
        boolean isTested;
        boolean isShipped;
        private final ArrayList<Slot> slots = new ArrayList<Slot>();
        /** The heats of the zones as they were in the oven. */
        private final Row heats = new Row(ZONES);

        Board() {
            for (int slot = 0; slot < SLOTS; slot++) {
                slots.add(new Slot());
            }
        }

        Slot slotAt(int number) {
            if (!isIndex(number, slots.size())) {
                throw new IndexOutOfBoundsException();
            }
            return slots.get(number);
        }

        private int mass() {
            int mass = BARE_MASS;
            for (int number = 0; number < slots.size(); number++) {
                if (slots.get(number).hasPart()) {
                    mass++;
                }
            }
            return mass;
        }

        int peak() {
            return Oven.peakOf(heats, mass());
        }

        int goThrough(Oven oven) {
            heats.copyFrom(oven.heats);
            isSoldered = true;
            int peak = peak();
            for (int number = 0; number < slots.size(); number++) {
                Slot slot = slots.get(number);
                if (slot.hasPart()) {
                    slot.join(oven, peak);
                }
            }
            return peak;
        }

        void findFaults(int covered) {
            isTested = true;
            for (int number = 0; number < slots.size(); number++) {
                Slot slot = slots.get(number);
                if ((covered & 1 << number) != 0 && slot.fault != GOOD) {
                    slot.isFound = true;
                }
            }
        }

        int faultsFound(boolean isFound) {
            int faults = 0;
            for (int number = 0; number < slots.size(); number++) {
                Slot slot = slots.get(number);
                if (slot.fault != GOOD && slot.isFound == isFound) {
                    faults++;
                }
            }
            return faults;
        }

        boolean hasPartOf(int reel) {
            for (int number = 0; number < slots.size(); number++) {
                if (slots.get(number).reel == reel) {
                    return true;
                }
            }
            return false;
        }
    }

    private static final class Oven {
        private static final int MINUTES_A_ZONE = 3;
        private static final int FIRST_HEAT = 25;

        final Row heats = new Row(ZONES);
        final Row lows = new Row(PARTS);
        final Row highs = new Row(PARTS);

        Oven() {
            heats.put(0, 150);
            heats.put(1, 200);
            heats.put(2, 240);
            heats.put(3, 100);
            lows.fill(180);
            highs.fill(260);
        }

        static int peakOf(Row heats, int mass) {
            int heat = FIRST_HEAT;
            int peak = 0;
            for (int zone = 0; zone < ZONES; zone++) {
                for (int minute = 0; minute < MINUTES_A_ZONE; minute++) {
                    heat += divideDown(heats.at(zone) - heat, mass);
                    peak = Math.max(peak, heat);
                }
            }
            return peak;
        }
    }
}
