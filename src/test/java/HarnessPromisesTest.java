/** The promises 1 to 11: a new object, and the harness. */
public final class HarnessPromisesTest {
    private static final int[] BAD_NODES = {-1, 8, Integer.MIN_VALUE, Integer.MAX_VALUE};

    public static void main(String[] args) {
        newObject();
        bundle();
        connector();
        mates();
        wireRefuses();
        wireGoesTheShortestWay();
        wireGoesByFewestThenLowest();
        wireTakesRoom();
        pull();
        ofWire();
        weight();
        order();
        least();
        Due.end();
    }

    /** Bundle 0 of length 5 from node 0 to 1, connectors 0 at node 0 and 1 at node 1, with 8 cavities. */
    private static Sparkline twoEnds() {
        Sparkline x = new Sparkline();
        x.bundle(0, 1, 5, 24);
        x.connector(0, 8, 0);
        x.connector(1, 8, 0);
        return x;
    }

    private static void newObject() {
        Sparkline x = new Sparkline();
        Due.is("1 weight", 0, () -> x.weight(255));
        Due.is("1 least", 0, () -> x.least(1));
        Due.is("1 leastAnew", 0, () -> x.leastAnew(5));
        Due.is("1 crimps", 0, () -> x.crimps(0));
        Due.is("1 good", 0, () -> x.crimps(1));
        Due.is("1 window", 0, () -> x.crimps(2));
        Due.index("1 no wire", () -> x.ofWire(0, 0));
        Due.index("1 no reel", () -> x.ofReel(0, 0));
        Due.index("1 no board", () -> x.ofSlot(0, 0, 0));
        Due.is("1 all slots but one", 7, () -> x.cover(3, false));
        Due.is("1 minute", 1, () -> x.pass(1));
        Due.is("1 bundle", 0, () -> x.bundle(0, 1, 1, 1));
        Due.is("1 connector", 0, () -> x.connector(0, 1, 0));
        Due.is("1 order", 0, () -> x.order(0, 1));
        Due.is("1 reel", 0, () -> x.reel(0, 1, 1));
        Due.is("1 board", 0, () -> x.board());
        Sparkline other = new Sparkline();
        Due.is("1 objects share nothing", 0, () -> other.bundle(0, 1, 1, 1));
    }

    private static void bundle() {
        Sparkline x = new Sparkline();
        for (int node : BAD_NODES) {
            Due.index("2 node", () -> x.bundle(node, 0, 1, 1));
            Due.index("2 other", () -> x.bundle(0, node, 1, 1));
            Due.index("2 both, ahead of all else", () -> x.bundle(node, node, 0, 0));
        }
        for (int length : new int[] {0, -1, 1000, Integer.MIN_VALUE, Integer.MAX_VALUE}) {
            Due.argument("2 length", () -> x.bundle(0, 1, length, 1));
        }
        for (int room : new int[] {0, -1, 25, Integer.MIN_VALUE, Integer.MAX_VALUE}) {
            Due.argument("2 room", () -> x.bundle(0, 1, 1, room));
        }
        Due.argument("2 the same node", () -> x.bundle(7, 7, 1, 1));
        Due.is("2 least of all", 0, () -> x.bundle(0, 7, 1, 1));
        Due.is("2 most of all", 1, () -> x.bundle(7, 0, 999, 24));
        for (int number = 2; number < 16; number++) {
            int due = number;
            Due.is("2 number", due, () -> x.bundle(1, 2, 1, 1));
        }
        Due.state("2 there are 16", () -> x.bundle(0, 1, 1, 1));
        Due.argument("2 length ahead of 16", () -> x.bundle(0, 1, 0, 1));
        Due.index("2 node ahead of 16", () -> x.bundle(0, 8, 1, 1));
    }

    private static void connector() {
        Sparkline x = new Sparkline();
        for (int node : BAD_NODES) {
            Due.index("3 node", () -> x.connector(node, 1, 0));
            Due.index("3 node ahead of cavities", () -> x.connector(node, 0, 10));
        }
        for (int cavities : new int[] {0, -1, 9, Integer.MIN_VALUE, Integer.MAX_VALUE}) {
            Due.argument("3 cavities", () -> x.connector(0, cavities, 0));
        }
        for (int key : new int[] {-1, 10, Integer.MIN_VALUE, Integer.MAX_VALUE}) {
            Due.argument("3 key", () -> x.connector(0, 1, key));
        }
        Due.is("3 least", 0, () -> x.connector(0, 1, 0));
        Due.is("3 most", 1, () -> x.connector(7, 8, 9));
        for (int number = 2; number < 8; number++) {
            int due = number;
            Due.is("3 number", due, () -> x.connector(0, 1, 0));
        }
        Due.state("3 there are 8", () -> x.connector(0, 1, 0));
        Due.argument("3 key ahead of 8", () -> x.connector(0, 1, 10));
        Due.index("3 node ahead of 8", () -> x.connector(-1, 1, 0));
    }

    private static void mates() {
        Sparkline x = new Sparkline();
        x.connector(0, 4, 1);
        x.connector(1, 4, 1);
        x.connector(2, 4, 2);
        x.connector(3, 3, 1);
        x.connector(0, 4, 1);
        x.connector(0, 4, 1);
        Due.index("4 connector", () -> x.mates(6, 0));
        Due.index("4 other", () -> x.mates(0, 6));
        Due.index("4 below 0", () -> x.mates(-1, -1));
        Due.index("4 MIN_VALUE", () -> x.mates(0, Integer.MIN_VALUE));
        Due.argument("4 the same", () -> x.mates(2, 2));
        Due.state("4 another key", () -> x.mates(0, 2));
        Due.state("4 other cavities", () -> x.mates(3, 0));
        // Of 0, 1, 4 and 5 each two fit: six pairs.
        Due.is("4 first pair", 5, () -> x.mates(4, 0));
        Due.state("4 one is a mate", () -> x.mates(0, 1));
        Due.state("4 the other is a mate", () -> x.mates(1, 4));
        Due.state("4 the same pair again", () -> x.mates(0, 4));
        Due.argument("4 the same ahead of mate", () -> x.mates(0, 0));
        Due.is("4 second pair", 4, () -> x.mates(1, 5));
        x.connector(0, 4, 2);
        Due.is("4 another key's pair", 4, () -> x.mates(2, 6));
        x.connector(5, 3, 1);
        Due.is("4 the last pair", 4, () -> x.mates(7, 3));
        Due.is("5 a mate is wired to another one", 0, () -> x.wire(0, 0, 5, 0, 0));
        Due.is("5 to one that does not fit", 1, () -> x.wire(4, 1, 6, 1, 0));
    }

    private static void wireRefuses() {
        Sparkline x = new Sparkline();
        x.bundle(0, 1, 5, 24);
        x.connector(0, 8, 0);
        x.connector(1, 2, 0);
        x.connector(2, 1, 0);
        for (int number : new int[] {-1, 3, Integer.MIN_VALUE, Integer.MAX_VALUE}) {
            Due.index("5 connector", () -> x.wire(number, 0, 1, 0, 0));
            Due.index("5 other", () -> x.wire(0, 0, number, 0, 0));
            Due.index("5 both", () -> x.wire(number, 0, number, 0, 8));
        }
        for (int cavity : new int[] {-1, 2, 8, Integer.MIN_VALUE, Integer.MAX_VALUE}) {
            Due.index("5 cavity of the other", () -> x.wire(0, 0, 1, cavity, 0));
            Due.index("5 cavity", () -> x.wire(1, cavity, 0, 0, 0));
            Due.index("5 cavity ahead of the same", () -> x.wire(1, 0, 1, cavity, 0));
        }
        for (int option : new int[] {-1, 8, Integer.MIN_VALUE, Integer.MAX_VALUE}) {
            Due.argument("5 option", () -> x.wire(0, 0, 1, 0, option));
            Due.argument("5 option ahead of no way", () -> x.wire(0, 0, 2, 0, option));
        }
        Due.argument("5 the same connector", () -> x.wire(0, 0, 0, 1, 0));
        Due.state("5 no way", () -> x.wire(0, 0, 2, 0, 0));
        Due.is("5 nothing was taken", 0, () -> x.wire(0, 7, 1, 1, 7));
        Due.state("5 cavity taken", () -> x.wire(0, 7, 1, 0, 0));
        Due.state("5 cavity of the other taken", () -> x.wire(0, 0, 1, 1, 0));
        Due.state("5 taken, told the other way round", () -> x.wire(1, 1, 0, 0, 0));
        Due.argument("5 option ahead of taken", () -> x.wire(0, 7, 1, 1, 8));
        Due.is("5 refused ones have no number", 1, () -> x.wire(1, 0, 0, 0, 0));

        Sparkline full = twoEnds();
        for (int number = 0; number < 24; number++) {
            int due = number;
            Due.is("5 number", due, () -> full.wire(0, due % 8, 1, due % 8, 0));
            full.pull(due);
        }
        Due.state("5 there are 24, pulled ones too", () -> full.wire(0, 0, 1, 0, 0));
        Due.index("5 cavity ahead of 24", () -> full.wire(0, 8, 1, 0, 0));
    }

    private static void wireGoesTheShortestWay() {
        Sparkline x = new Sparkline();
        x.bundle(0, 7, 100, 24);
        x.bundle(1, 0, 10, 24);
        x.bundle(2, 1, 10, 24);
        x.bundle(2, 3, 10, 24);
        x.bundle(4, 3, 10, 24);
        x.bundle(4, 5, 10, 24);
        x.bundle(6, 5, 10, 24);
        x.bundle(6, 7, 10, 24);
        x.connector(0, 8, 0);
        x.connector(7, 8, 0);
        x.connector(7, 8, 0);
        x.wire(0, 0, 1, 0, 0);
        way(x, 0, 70, 1, 2, 3, 4, 5, 6, 7);
        x.wire(1, 1, 0, 1, 0);
        way(x, 1, 70, 7, 6, 5, 4, 3, 2, 1);
        x.wire(1, 2, 2, 2, 0);
        way(x, 2, 0);
        x.bundle(0, 7, 69, 1);
        x.wire(0, 3, 2, 3, 0);
        way(x, 3, 69, 8);
        x.wire(0, 4, 2, 4, 0);
        way(x, 4, 70, 1, 2, 3, 4, 5, 6, 7);
        Sparkline longest = new Sparkline();
        for (int node = 0; node < 7; node++) {
            longest.bundle(node, node + 1, 999, 1);
        }
        longest.connector(0, 1, 0);
        longest.connector(7, 1, 0);
        longest.wire(1, 0, 0, 0, 0);
        way(longest, 0, 6993, 6, 5, 4, 3, 2, 1, 0);
    }

    private static void wireGoesByFewestThenLowest() {
        Sparkline x = new Sparkline();
        x.bundle(0, 1, 5, 24);
        x.bundle(1, 3, 5, 24);
        x.bundle(0, 2, 5, 1);
        x.bundle(2, 3, 5, 24);
        x.connector(0, 8, 0);
        x.connector(3, 8, 0);
        x.wire(0, 0, 1, 0, 0);
        way(x, 0, 10, 0, 1);
        x.wire(1, 1, 0, 1, 0);
        way(x, 1, 10, 1, 0);
        x.bundle(3, 0, 10, 2);
        x.wire(0, 2, 1, 2, 0);
        way(x, 2, 10, 4);
        x.wire(1, 3, 0, 3, 0);
        way(x, 3, 10, 4);
        x.wire(0, 4, 1, 4, 0);
        way(x, 4, 10, 0, 1);

        // From node 0 the bundle 1 is lowest at first; from node 3 the bundle 0 is.
        Sparkline y = new Sparkline();
        y.bundle(3, 2, 5, 24);
        y.bundle(0, 1, 5, 24);
        y.bundle(1, 3, 5, 24);
        y.bundle(0, 2, 5, 24);
        y.connector(0, 8, 0);
        y.connector(3, 8, 0);
        y.wire(0, 0, 1, 0, 0);
        way(y, 0, 10, 1, 2);
        y.wire(1, 1, 0, 1, 0);
        way(y, 1, 10, 0, 3);

        // The second bundle decides, and of two between the same nodes the lower one with room.
        Sparkline z = new Sparkline();
        z.bundle(1, 2, 7, 1);
        z.bundle(2, 1, 7, 1);
        z.bundle(1, 0, 3, 24);
        z.connector(0, 8, 0);
        z.connector(2, 8, 0);
        z.wire(0, 0, 1, 0, 0);
        way(z, 0, 10, 2, 0);
        z.wire(0, 1, 1, 1, 0);
        way(z, 1, 10, 2, 1);
        Due.state("5 no room", () -> z.wire(0, 2, 1, 2, 0));
        z.pull(0);
        z.wire(0, 2, 1, 2, 0);
        way(z, 2, 10, 2, 0);
    }

    private static void wireTakesRoom() {
        Sparkline x = new Sparkline();
        x.bundle(0, 1, 5, 2);
        x.bundle(1, 2, 5, 3);
        x.connector(0, 8, 0);
        x.connector(1, 8, 0);
        x.connector(2, 8, 0);
        x.connector(0, 8, 0);
        x.wire(0, 0, 2, 0, 0);
        x.wire(0, 1, 1, 1, 0);
        Due.state("5 bundle 0 is full", () -> x.wire(0, 2, 1, 2, 0));
        Due.state("5 on the way too", () -> x.wire(0, 2, 2, 2, 0));
        Due.is("5 bundle 1 has room", 2, () -> x.wire(1, 2, 2, 2, 0));
        Due.is("5 at one node without room", 3, () -> x.wire(0, 2, 3, 2, 0));
        Due.is("5 bundle 1 has room for one more", 4, () -> x.wire(1, 3, 2, 3, 0));
        Due.state("5 bundle 1 is full", () -> x.wire(1, 4, 2, 4, 0));
        x.pull(0);
        Due.is("6 room is free in each", 5, () -> x.wire(2, 4, 0, 4, 0));
        Due.state("6 but for one", () -> x.wire(2, 5, 0, 5, 0));
    }

    private static void way(Sparkline x, int wire, int length, int... bundles) {
        Due.is("7 length of " + wire, length, () -> x.ofWire(wire, -1));
        for (int place = 0; place < bundles.length; place++) {
            int at = place;
            Due.is("7 place " + place + " of " + wire, bundles[place], () -> x.ofWire(wire, at));
        }
        Due.is("7 behind the last one of " + wire, -1, () -> x.ofWire(wire, bundles.length));
    }

    private static void pull() {
        Sparkline x = twoEnds();
        Due.index("6 no wire", () -> x.pull(0));
        x.wire(0, 0, 1, 1, 3);
        Due.index("6 below 0", () -> x.pull(-1));
        Due.index("6 above", () -> x.pull(1));
        Due.index("6 MIN_VALUE", () -> x.pull(Integer.MIN_VALUE));
        Due.index("6 MAX_VALUE", () -> x.pull(Integer.MAX_VALUE));
        Due.is("6 its length", 5, () -> x.pull(0));
        Due.state("6 pulled", () -> x.pull(0));
        Due.is("6 weighs nothing", 0, () -> x.weight(255));
        Due.is("6 cavities are free", 1, () -> x.wire(0, 0, 1, 1, 3));
        Due.state("6 still pulled", () -> x.pull(0));
        Due.state("6 and not free", () -> x.wire(0, 0, 1, 2, 0));
        Due.is("6 weighs again", 5, () -> x.weight(255));
        x.wire(0, 7, 1, 6, 0);
        x.pull(1);
        Due.state("6 a cavity of another wire stays taken", () -> x.wire(0, 7, 1, 0, 0));
        Due.state("6 and that of the other connector", () -> x.wire(0, 0, 1, 6, 0));
    }

    private static void ofWire() {
        Sparkline x = twoEnds();
        x.wire(0, 0, 1, 0, 0);
        Due.index("7 no wire", () -> x.ofWire(1, 0));
        Due.index("7 below 0", () -> x.ofWire(-1, 0));
        Due.index("7 place below NONE", () -> x.ofWire(0, -2));
        Due.index("7 place MIN_VALUE", () -> x.ofWire(0, Integer.MIN_VALUE));
        Due.is("7 far behind", -1, () -> x.ofWire(0, Integer.MAX_VALUE));
        Due.is("7 bundle", 0, () -> x.ofWire(0, 0));
        Due.is("7 length", 5, () -> x.ofWire(0, -1));
        x.pull(0);
        Due.is("7 length when pulled", 0, () -> x.ofWire(0, -1));
        Due.is("7 bundle when pulled", -1, () -> x.ofWire(0, 0));
        Due.index("7 place below NONE when pulled", () -> x.ofWire(0, -2));
    }

    private static void weight() {
        Sparkline x = new Sparkline();
        x.connector(0, 8, 0);
        for (int node = 1; node < 8; node++) {
            x.bundle(0, node, 1 << node, 24);
            x.connector(node, 8, 0);
            x.wire(0, node, node, 0, node);
        }
        for (int options : new int[] {-1, 256, Integer.MIN_VALUE, Integer.MAX_VALUE}) {
            Due.argument("8 options", () -> x.weight(options));
        }
        for (int options = 0; options < 256; options++) {
            int asked = options;
            Due.is("8 weight " + asked, asked & ~1, () -> x.weight(asked));
        }
        x.wire(1, 7, 2, 7, 0);
        x.wire(1, 6, 2, 6, 0);
        Due.is("8 two wires of an option", 12, () -> x.weight(1));
        x.pull(0);
        Due.is("8 without the pulled one", 12 + 4, () -> x.weight(7));
        x.bundle(0, 7, 1, 24);
        Due.is("8 a shorter bundle told later changes none", 128, () -> x.weight(128));
        Due.is("7 nor the length of a wire", 128, () -> x.ofWire(6, -1));
        Due.is("6 nor what it answers", 128, () -> x.pull(6));
        Due.is("5 it is for the next one", 9, () -> x.wire(0, 7, 7, 0, 7));
        Due.is("8 by the shorter one", 1, () -> x.weight(128));
    }

    private static void order() {
        Sparkline x = new Sparkline();
        for (int options : new int[] {-1, 256, Integer.MIN_VALUE, Integer.MAX_VALUE}) {
            Due.argument("9 options", () -> x.order(options, 1));
        }
        for (int many : new int[] {0, -1, 100, Integer.MIN_VALUE, Integer.MAX_VALUE}) {
            Due.argument("9 many", () -> x.order(0, many));
        }
        Due.is("9 least", 0, () -> x.order(0, 1));
        Due.is("9 most", 1, () -> x.order(255, 99));
        Due.is("9 the same again", 2, () -> x.order(255, 99));
        x.order(1, 1);
        Due.is("9 the fifth", 4, () -> x.order(1, 1));
        Due.state("9 there are 5", () -> x.order(1, 1));
        Due.argument("9 many ahead of 5", () -> x.order(1, 0));
    }

    private static void least() {
        Sparkline x = new Sparkline();
        for (int families : new int[] {0, -1, 6, Integer.MIN_VALUE, Integer.MAX_VALUE}) {
            Due.argument("10 families", () -> x.least(families));
            Due.argument("11 families", () -> x.leastAnew(families));
        }
        x.connector(0, 8, 0);
        for (int node = 1; node < 6; node++) {
            x.bundle(0, node, 10, 24);
            x.connector(node, 8, 0);
            x.wire(0, node, node, 0, node - 1);
        }
        x.order(1, 10);
        Due.is("11 leastAnew asked first", 100, () -> x.leastAnew(2));
        leasts(x, 100, 100, 100, 100, 100);
        x.order(2, 1);
        leasts(x, 220, 110, 110, 110, 110);
        x.order(4, 2);
        // Two families: the ten alone, 100, and the other two together, 3 times 20.
        leasts(x, 390, 160, 130, 130, 130);
        x.order(5, 3);
        // Two: 100 and 6 times 30; three: 100, and 10, and 5 times 20.
        leasts(x, 480, 280, 210, 190, 190);
        x.order(0, 99);
        leasts(x, 3450, 480, 280, 210, 190);
        x.pull(0);
        leasts(x, 2300, 120, 60, 60, 60);

        Sparkline heavy = new Sparkline();
        for (int node = 0; node < 7; node++) {
            heavy.bundle(node, node + 1, 999, 24);
        }
        for (int pair = 0; pair < 3; pair++) {
            heavy.connector(0, 8, 0);
            heavy.connector(7, 8, 0);
            for (int cavity = 0; cavity < 8; cavity++) {
                heavy.wire(2 * pair, cavity, 2 * pair + 1, cavity, cavity);
            }
        }
        for (int number = 0; number < 5; number++) {
            heavy.order(255, 99);
        }
        int most = 24 * 7 * 999 * 5 * 99;
        leasts(heavy, most, most, most, most, most);
    }

    private static void leasts(Sparkline x, int... due) {
        for (int families = 1; families <= 5; families++) {
            int asked = families;
            Due.is("10 least " + asked, due[asked - 1], () -> x.least(asked));
            Due.is("11 leastAnew " + asked, due[asked - 1], () -> x.leastAnew(asked));
        }
    }
}
