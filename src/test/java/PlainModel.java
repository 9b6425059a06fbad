import java.util.ArrayList;
import java.util.List;

/** The document once more, by trying all there is: every way, every sharing out of orders, every minute. */
final class PlainModel {
    private record Bundle(int node, int other, int length, int room) {
    }

    private record Connector(int node, int cavities, int key) {
    }

    private record Wire(int one, int cavity, int two, int others, int option, List<Integer> way) {
    }

    private record Order(int options, int many) {
    }

    private final List<Bundle> bundles = new ArrayList<>();
    private final List<Connector> connectors = new ArrayList<>();
    private final List<int[]> pairs = new ArrayList<>();
    private final List<Wire> wires = new ArrayList<>();
    private final List<Boolean> pulled = new ArrayList<>();
    private final List<Order> orders = new ArrayList<>();
    private final List<Integer> goodForces = new ArrayList<>();
    private int crimped = 0;
    /** Part, left, life, minute of the beginning or -1. */
    private final List<int[]> reels = new ArrayList<>();
    private final List<Parts> boards = new ArrayList<>();
    private final boolean[] covered = {true, true, true, true, true, true, true, true};
    private final int[] heats = {150, 200, 240, 100};
    private final int[] lows = {180, 180, 180, 180, 180, 180};
    private final int[] highs = {260, 260, 260, 260, 260, 260};
    private int now = 0;

    private static final class Parts {
        final int[] reel = {-1, -1, -1, -1, -1, -1, -1, -1};
        final int[] minute = {-1, -1, -1, -1, -1, -1, -1, -1};
        final int[] joint = {-1, -1, -1, -1, -1, -1, -1, -1};
        final int[] fault = new int[8];
        final boolean[] found = new boolean[8];
        final boolean[] repaired = new boolean[8];
        boolean soldered;
        boolean shipped;
        boolean mayShip;
    }

    private static void index(boolean isWrong) {
        if (isWrong) {
            throw new IndexOutOfBoundsException();
        }
    }

    private static void argument(boolean isWrong) {
        if (isWrong) {
            throw new IllegalArgumentException();
        }
    }

    private static void state(boolean isWrong) {
        if (isWrong) {
            throw new IllegalStateException();
        }
    }

    private static boolean out(int value, int low, int high) {
        return value < low || value > high;
    }

    int bundle(int node, int other, int length, int room) {
        index(out(node, 0, 7) || out(other, 0, 7));
        argument(node == other || out(length, 1, 999) || out(room, 1, 24));
        state(bundles.size() == 16);
        bundles.add(new Bundle(node, other, length, room));
        return bundles.size() - 1;
    }

    int connector(int node, int cavities, int key) {
        index(out(node, 0, 7));
        argument(out(cavities, 1, 8) || out(key, 0, 9));
        state(connectors.size() == 8);
        connectors.add(new Connector(node, cavities, key));
        return connectors.size() - 1;
    }

    private boolean fit(int one, int two) {
        Connector a = connectors.get(one);
        Connector b = connectors.get(two);
        return a.cavities == b.cavities && a.key == b.key;
    }

    private boolean isPair(int one, int two) {
        return pairs.stream().anyMatch(p -> p[0] == one && p[1] == two || p[0] == two && p[1] == one);
    }

    int mates(int one, int two) {
        index(out(one, 0, connectors.size() - 1) || out(two, 0, connectors.size() - 1));
        argument(one == two);
        state(!fit(one, two));
        state(pairs.stream().anyMatch(p -> p[0] == one || p[1] == one || p[0] == two || p[1] == two));
        pairs.add(new int[] {one, two});
        int wrong = 0;
        for (int a = 0; a < connectors.size(); a++) {
            for (int b = 0; b < a; b++) {
                wrong += fit(a, b) && !isPair(a, b) ? 1 : 0;
            }
        }
        return wrong;
    }

    private int roomLeft(int bundle) {
        int room = bundles.get(bundle).room;
        for (int number = 0; number < wires.size(); number++) {
            room -= !pulled.get(number) && wires.get(number).way.contains(bundle) ? 1 : 0;
        }
        return room;
    }

    private boolean isTaken(int connector, int cavity) {
        for (int number = 0; number < wires.size(); number++) {
            Wire w = wires.get(number);
            boolean isAt = w.one == connector && w.cavity == cavity || w.two == connector && w.others == cavity;
            if (isAt && !pulled.get(number)) {
                return true;
            }
        }
        return false;
    }

    private int lengthOf(List<Integer> way) {
        return way.stream().mapToInt(b -> bundles.get(b).length).sum();
    }

    private boolean isBetter(List<Integer> way, List<Integer> best) {
        if (best == null || lengthOf(way) != lengthOf(best)) {
            return best == null || lengthOf(way) < lengthOf(best);
        }
        if (way.size() != best.size()) {
            return way.size() < best.size();
        }
        for (int place = 0; place < way.size(); place++) {
            if (!way.get(place).equals(best.get(place))) {
                return way.get(place) < best.get(place);
            }
        }
        return false;
    }

    private List<Integer> bestWay(int node, int goal, int seen, List<Integer> soFar, List<Integer> best) {
        if (node == goal) {
            return isBetter(soFar, best) ? new ArrayList<>(soFar) : best;
        }
        List<Integer> found = best;
        for (int b = 0; b < bundles.size(); b++) {
            Bundle bundle = bundles.get(b);
            int next = bundle.node == node ? bundle.other : bundle.node;
            boolean isOn = bundle.node == node || bundle.other == node;
            if (isOn && (seen & 1 << next) == 0 && roomLeft(b) > 0) {
                soFar.add(b);
                found = bestWay(next, goal, seen | 1 << next, soFar, found);
                soFar.remove(soFar.size() - 1);
            }
        }
        return found;
    }

    int wire(int one, int cavity, int two, int others, int option) {
        index(out(one, 0, connectors.size() - 1) || out(two, 0, connectors.size() - 1));
        index(out(cavity, 0, connectors.get(one).cavities - 1) || out(others, 0, connectors.get(two).cavities - 1));
        argument(one == two || out(option, 0, 7));
        state(isTaken(one, cavity) || isTaken(two, others) || wires.size() == 24);
        int from = connectors.get(one).node;
        List<Integer> way = bestWay(from, connectors.get(two).node, 1 << from, new ArrayList<>(), null);
        state(way == null);
        wires.add(new Wire(one, cavity, two, others, option, way));
        pulled.add(false);
        return wires.size() - 1;
    }

    int pull(int wire) {
        index(out(wire, 0, wires.size() - 1));
        state(pulled.get(wire));
        pulled.set(wire, true);
        return lengthOf(wires.get(wire).way);
    }

    int ofWire(int wire, int place) {
        index(out(wire, 0, wires.size() - 1) || place < -1);
        List<Integer> way = pulled.get(wire) ? List.of() : wires.get(wire).way;
        return place == -1 ? lengthOf(way) : place < way.size() ? way.get(place) : -1;
    }

    private int weightOf(int options) {
        int weight = 0;
        for (int number = 0; number < wires.size(); number++) {
            boolean isIn = (options >> wires.get(number).option & 1) == 1;
            weight += isIn && !pulled.get(number) ? lengthOf(wires.get(number).way) : 0;
        }
        return weight;
    }

    int weight(int options) {
        argument(out(options, 0, 255));
        return weightOf(options);
    }

    int order(int options, int many) {
        argument(out(options, 0, 255) || out(many, 1, 99));
        state(orders.size() == 5);
        orders.add(new Order(options, many));
        return orders.size() - 1;
    }

    int least(int families) {
        argument(out(families, 1, 5));
        int[] weights = new int[256];
        for (int options = 0; options < 256; options++) {
            weights[options] = weightOf(options);
        }
        int least = Integer.MAX_VALUE;
        for (int plan = 0; plan < Math.pow(families, orders.size()); plan++) {
            int[] options = new int[families];
            int[] many = new int[families];
            int rest = plan;
            for (Order order : orders) {
                options[rest % families] |= order.options;
                many[rest % families] += order.many;
                rest /= families;
            }
            int weight = 0;
            for (int family = 0; family < families; family++) {
                weight += weights[options[family]] * many[family];
            }
            least = Math.min(least, weight);
        }
        return least;
    }

    private int window() {
        List<Integer> latest = goodForces.subList(Math.max(0, goodForces.size() - 8), goodForces.size());
        return latest.stream().mapToInt(f -> f).sum() / latest.size();
    }

    boolean crimp(int force) {
        argument(out(force, 1, 9999));
        crimped++;
        if (goodForces.size() >= 3 && 10 * Math.max(force - window(), window() - force) > window()) {
            return false;
        }
        goodForces.add(force);
        return true;
    }

    int crimps(int what) {
        argument(out(what, 0, 2));
        return what == 0 ? crimped : what == 1 ? goodForces.size() : goodForces.size() < 3 ? 0 : window();
    }

    int reel(int part, int many, int life) {
        index(out(part, 0, 5));
        argument(out(many, 1, 99) || out(life, 1, 5000));
        state(reels.size() == 12);
        reels.add(new int[] {part, many, life, -1});
        return reels.size() - 1;
    }

    private int clock(int reel) {
        int[] r = reels.get(reel);
        return r[3] == -1 || now - r[3] > r[2] ? -1 : r[2] - (now - r[3]);
    }

    private boolean gives(int reel) {
        return clock(reel) >= 0 && reels.get(reel)[1] > 0;
    }

    int open(int reel, boolean isBaked) {
        index(out(reel, 0, reels.size() - 1));
        state(reels.get(reel)[3] != -1 && !isBaked);
        reels.get(reel)[3] = now;
        return clock(reel);
    }

    int ofReel(int reel, int what) {
        index(out(reel, 0, reels.size() - 1) || out(what, 0, 2));
        return what == 2 ? clock(reel) : reels.get(reel)[what];
    }

    int board() {
        state(boards.size() == 12);
        boards.add(new Parts());
        return boards.size() - 1;
    }

    private void take(Parts b, int slot, int reel) {
        reels.get(reel)[1]--;
        b.reel[slot] = reel;
        b.minute[slot] = now;
    }

    int place(int board, int slot, int reel) {
        index(out(board, 0, boards.size() - 1) || out(slot, 0, 7) || out(reel, 0, reels.size() - 1));
        Parts b = boards.get(board);
        state(b.soldered || b.reel[slot] != -1 || !gives(reel));
        take(b, slot, reel);
        return reels.get(reel)[1];
    }

    int limits(boolean isZone, int number, int low, int high) {
        index(out(number, 0, isZone ? 3 : 5));
        argument(out(low, 0, 400) || !isZone && out(high, low, 400));
        if (isZone) {
            heats[number] = low;
        } else {
            lows[number] = low;
            highs[number] = high;
        }
        return 0;
    }

    int solder(int board) {
        index(out(board, 0, boards.size() - 1));
        Parts b = boards.get(board);
        state(b.soldered);
        b.soldered = true;
        int mass = 2;
        for (int slot = 0; slot < 8; slot++) {
            mass += b.reel[slot] == -1 ? 0 : 1;
        }
        int heat = 25;
        int peak = -1;
        for (int minute = 0; minute < 12; minute++) {
            // 1000 masses are added and taken off again, for a division of what is not below 0.
            heat += (heats[minute / 3] - heat + 1000 * mass) / mass - 1000;
            peak = heat > peak ? heat : peak;
        }
        for (int slot = 0; slot < 8; slot++) {
            if (b.reel[slot] != -1) {
                int part = reels.get(b.reel[slot])[0];
                b.joint[slot] = peak < lows[part] ? 1 : peak > highs[part] ? 2 : 0;
                b.fault[slot] = b.joint[slot];
            }
        }
        return peak;
    }

    int flaw(int board, int slot) {
        index(out(board, 0, boards.size() - 1) || out(slot, 0, 7));
        Parts b = boards.get(board);
        state(!b.soldered || b.shipped || b.reel[slot] == -1);
        b.fault[slot] = 3;
        b.found[slot] = false;
        return 0;
    }

    int cover(int slot, boolean isCovered) {
        index(out(slot, 0, 7));
        covered[slot] = isCovered;
        int many = 0;
        for (boolean c : covered) {
            many += c ? 1 : 0;
        }
        return many;
    }

    private int faults(Parts b, boolean isFound) {
        int many = 0;
        for (int slot = 0; slot < 8; slot++) {
            many += b.fault[slot] != 0 && b.found[slot] == isFound ? 1 : 0;
        }
        return many;
    }

    int test(int board) {
        index(out(board, 0, boards.size() - 1));
        Parts b = boards.get(board);
        state(!b.soldered || b.shipped);
        b.mayShip = true;
        for (int slot = 0; slot < 8; slot++) {
            b.found[slot] |= covered[slot] && b.fault[slot] != 0;
        }
        return faults(b, true);
    }

    int repair(int board, int slot, int reel) {
        index(out(board, 0, boards.size() - 1) || out(slot, 0, 7) || out(reel, 0, reels.size() - 1));
        Parts b = boards.get(board);
        state(!b.found[slot] || b.repaired[slot] || !gives(reel));
        state(reels.get(reel)[0] != reels.get(b.reel[slot])[0]);
        take(b, slot, reel);
        b.fault[slot] = 0;
        b.found[slot] = false;
        b.repaired[slot] = true;
        b.mayShip = false;
        return faults(b, true);
    }

    int ship(int board) {
        index(out(board, 0, boards.size() - 1));
        Parts b = boards.get(board);
        state(b.shipped || !b.mayShip || faults(b, true) > 0);
        b.shipped = true;
        return faults(b, false);
    }

    int pass(int minutes) {
        argument(out(minutes, 1, 999));
        state(now > 9999 - minutes);
        now += minutes;
        return now;
    }

    int ofSlot(int board, int slot, int what) {
        index(out(board, 0, boards.size() - 1) || out(slot, 0, 7) || out(what, 0, 3));
        Parts b = boards.get(board);
        int fault = b.found[slot] ? b.fault[slot] : 0;
        return what == 0 ? b.reel[slot] : what == 1 ? b.minute[slot] : what == 2 ? fault : b.repaired[slot] ? 1 : 0;
    }

    int jointAnew(int board, int slot) {
        index(out(board, 0, boards.size() - 1) || out(slot, 0, 7));
        return boards.get(board).joint[slot];
    }

    int recall(int reel) {
        index(out(reel, 0, reels.size() - 1));
        int many = 0;
        for (Parts b : boards) {
            boolean isIn = false;
            for (int of : b.reel) {
                isIn |= of == reel;
            }
            many += isIn && b.shipped ? 1 : 0;
        }
        return many;
    }
}
