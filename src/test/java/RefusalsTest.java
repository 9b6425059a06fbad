/**
 * Each row that begins with 'Throws', each of its cases alone, and of several that apply the one named first; none
 * changes anything. Ranges stand in RangesTest.
 */
public final class RefusalsTest {
    private static final String SIXTEEN_BUNDLES = Told.times(16, "bundle 0 1 1 1;");
    private static final String EIGHT_CONNECTORS = Told.times(8, "connector 0 1 0;");
    /** Connectors 0 to 3 that fit, 0 and 1 of them mates, 4 with another key, 5 with other cavities; no bundle to 5. */
    private static final String CONNECTORS = "bundle 0 1 5 2; connector 0 8 0; connector 1 8 0; connector 0 8 0;"
        + "connector 1 8 0; connector 1 8 1; connector 5 7 0; mates 0 1;";
    private static final String WIRED = CONNECTORS + "wire 0 0 1 1 3;";
    private static final String TWENTY_FOUR_WIRES = CONNECTORS + Told.times(24, "wire 0 0 1 1 3; pull #;");
    private static final String FIVE_ORDERS = Told.times(5, "order 1 1;");
    private static final String TWELVE_REELS = Told.times(12, "reel 0 1 1;");
    private static final String TWELVE_BOARDS = Told.times(12, "board;");
    /** The reels 0 open, 1 not open, 2 run out, 3 empty, and 4 of another part; a board with a part in the slot 7. */
    private static final String REELS = "board; reel 0 9 5000; open 0 false; reel 0 9 5000; reel 0 9 10; open 2 false;"
        + "pass 11; reel 0 1 5000; open 3 false; reel 1 9 5000; open 4 false; place 0 7 0; board; place 1 0 3;";
    private static final String COLD = REELS + "limits false 0 400 400; place 0 5 0; solder 0;";
    private static final String FOUND = COLD + "test 0;";
    private static final String REPAIRED = FOUND + "repair 0 7 0;";
    private static final String SHIPPED = REELS + "limits false 0 0 400; solder 0; test 0; ship 0;";

    public static void main(String[] args) {
        newObject();
        bundle();
        connector();
        mates();
        wireByIndexAndArgument();
        wireByState();
        pullAndOfWire();
        order();
        reel();
        open();
        board();
        place();
        limits();
        solder();
        flaw();
        test();
        repair();
        repairOfNoFault();
        ship();
        pass();
        Due.end();
    }

    private static void index(String sentence, String run, String... calls) {
        for (String call : calls) {
            Look.refused(sentence, run, call, Told.INDEX);
        }
    }

    private static void argument(String sentence, String run, String... calls) {
        for (String call : calls) {
            Look.refused(sentence, run, call, Told.ARGUMENT);
        }
    }

    private static void state(String sentence, String run, String... calls) {
        for (String call : calls) {
            Look.refused(sentence, run, call, Told.STATE);
        }
    }

    private static void newObject() {
        index("4 no connector", "", "mates 0 1", "mates 0 0", "mates -1 0", "mates 0 -1");
        index("4 one connector alone", "connector 0 8 0;", "mates 0 1", "mates 1 0", "mates 1 1");
        index("5 no connector", "bundle 0 1 1 1;", "wire 0 0 1 0 0", "wire -1 0 0 0 0", "wire 0 0 0 0 8");
        index("5 one connector alone", "connector 0 8 0;", "wire 0 0 1 0 0", "wire 1 0 0 0 0");
        index("6 no wire", "", "pull 0", "pull -1");
        index("7 no wire", "", "ofWire 0 0", "ofWire 0 -1", "ofWire 0 -2", "ofWire -1 0");
        index("15 no reel", "", "open 0 false", "open 0 true", "open -1 true");
        index("16 no reel", "", "ofReel 0 0", "ofReel 0 1", "ofReel 0 2", "ofReel 0 3", "ofReel -1 0");
        index("18 no board", "reel 0 1 1; open 0 false;", "place 0 0 0", "place -1 0 0");
        index("18 no reel", "board;", "place 0 0 0", "place 0 0 -1");
        index("20 no board", "", "solder 0", "solder -1");
        index("21 no board", "", "flaw 0 0", "flaw -1 0");
        index("23 no board", "", "test 0", "test -1");
        index("24 no board", "reel 0 1 1; open 0 false;", "repair 0 0 0", "repair -1 0 0");
        index("24 no reel", "board;", "repair 0 0 0", "repair 0 0 -1");
        index("25 no board", "", "ship 0", "ship -1");
        index("27 no board", "", "ofSlot 0 0 0", "ofSlot -1 0 0");
        index("28 no board", "", "jointAnew 0 0", "jointAnew -1 0");
        index("29 no reel", "", "recall 0", "recall -1");
    }

    private static void bundle() {
        argument("2 both are the same", "", "bundle 0 0 1 1", "bundle 7 7 999 24");
        state("2 there are 16", SIXTEEN_BUNDLES, "bundle 0 1 1 1", "bundle 7 6 999 24");
        index("2 no such node, ahead of the arguments", "", "bundle 8 8 1 1", "bundle -1 -1 1 1", "bundle 8 0 0 1",
            "bundle 0 8 1 0", "bundle 0 -1 1000 1", "bundle -1 0 1 25");
        index("2 no such node, ahead of 16", SIXTEEN_BUNDLES, "bundle 8 0 1 1", "bundle 0 -1 1 1");
        index("2 all apply", SIXTEEN_BUNDLES, "bundle 8 8 0 25", "bundle -1 -1 1000 0");
        argument("2 arguments, ahead of 16", SIXTEEN_BUNDLES, "bundle 3 3 1 1", "bundle 0 1 0 1", "bundle 0 1 1000 1",
            "bundle 0 1 1 0", "bundle 0 1 1 25");
    }

    private static void connector() {
        state("3 there are 8", EIGHT_CONNECTORS, "connector 0 1 0", "connector 7 8 9");
        index("3 no such node, ahead of the arguments", "", "connector 8 0 0", "connector -1 1 10", "connector 8 9 -1");
        index("3 no such node, ahead of 8", EIGHT_CONNECTORS, "connector 8 1 0", "connector -1 1 0");
        index("3 all apply", EIGHT_CONNECTORS, "connector 8 0 10", "connector -1 9 -1");
        argument("3 arguments, ahead of 8", EIGHT_CONNECTORS, "connector 0 0 0", "connector 0 9 0", "connector 0 1 -1",
            "connector 0 1 10");
    }

    private static void mates() {
        argument("4 both are the same", CONNECTORS, "mates 2 2", "mates 5 5");
        state("4 another key", CONNECTORS, "mates 2 4", "mates 4 2");
        state("4 other cavities", CONNECTORS, "mates 2 5", "mates 5 2");
        state("4 neither the same", CONNECTORS, "mates 4 5", "mates 5 4");
        state("4 the first is a mate", CONNECTORS, "mates 0 2", "mates 1 2");
        state("4 the second is a mate", CONNECTORS, "mates 2 0", "mates 2 1");
        state("4 they are mates", CONNECTORS, "mates 0 1", "mates 1 0");
        state("4 each is a mate, of another one", CONNECTORS + "mates 2 3;", "mates 0 2", "mates 3 1");
        index("4 no such connector, though it is the same", CONNECTORS, "mates 6 6", "mates -1 -1");
        index("4 no such connector, though one is a mate", CONNECTORS, "mates 0 6", "mates -1 1", "mates 6 0");
        argument("4 the same, though a mate", CONNECTORS, "mates 0 0", "mates 1 1");
    }

    private static void wireByIndexAndArgument() {
        argument("5 both connectors are the same", CONNECTORS, "wire 0 0 0 1 0", "wire 0 0 0 0 0");
        index("5 no such connector, ahead of the arguments", WIRED, "wire 6 0 6 0 0", "wire 0 1 6 0 8",
            "wire -1 0 0 0 -1");
        index("5 no such cavity, ahead of the arguments", WIRED, "wire 0 8 0 1 0", "wire 0 1 0 8 0", "wire 0 8 1 0 8",
            "wire 0 1 1 -1 -1", "wire 5 7 5 0 0");
        index("5 no such one, ahead of a taken cavity", WIRED, "wire 0 0 1 8 0", "wire 0 8 1 1 0", "wire 0 0 6 0 0");
        index("5 no such one, ahead of no way", WIRED, "wire 0 1 5 7 0", "wire 5 7 0 1 0");
        index("5 no such one, ahead of 24", TWENTY_FOUR_WIRES, "wire 0 8 1 0 0", "wire 0 0 1 8 0", "wire 6 0 1 0 0",
            "wire 0 0 -1 0 0");
        index("5 all apply", WIRED, "wire 0 0 0 8 8", "wire 5 7 5 0 -1");
        argument("5 arguments, ahead of a taken cavity", WIRED, "wire 0 0 0 1 0", "wire 0 1 0 0 0", "wire 0 0 1 0 8",
            "wire 0 1 1 1 -1", "wire 0 0 0 0 0");
        argument("5 arguments, ahead of no way", WIRED, "wire 0 1 5 0 8", "wire 5 0 0 1 -1");
        argument("5 arguments, ahead of 24", TWENTY_FOUR_WIRES, "wire 0 0 0 1 0", "wire 0 0 1 0 8", "wire 0 0 1 0 -1");
    }

    private static void wireByState() {
        state("5 a wire in the cavity", WIRED, "wire 0 0 1 0 0", "wire 0 0 3 1 0", "wire 1 1 0 1 0");
        state("5 a wire in the other's cavity", WIRED, "wire 0 1 1 1 0", "wire 3 1 0 0 0", "wire 2 1 1 1 0");
        state("5 a wire in both", WIRED, "wire 0 0 1 1 3", "wire 1 1 0 0 3");
        state("5 no way: no bundle there", CONNECTORS, "wire 0 0 5 0 0", "wire 5 0 0 0 0");
        state("5 no way: no room left", WIRED + "wire 0 1 1 2 0;", "wire 0 2 1 3 0", "wire 1 3 0 2 0",
            "wire 2 0 3 0 0");
        state("5 no way: no bundle at all", "connector 0 1 0; connector 1 1 0;", "wire 0 0 1 0 0");
        state("5 no way: one of two is full", "bundle 0 1 1 1; bundle 1 2 1 9; connector 0 8 0; connector 2 8 0;"
            + "connector 1 8 0; wire 0 0 2 0 0;", "wire 0 1 1 1 0", "wire 1 1 0 1 0");
        state("5 there are 24, all pulled out", TWENTY_FOUR_WIRES, "wire 0 0 1 1 3", "wire 2 0 3 0 0");
        state("5 there are 24, at one node too", TWENTY_FOUR_WIRES, "wire 0 0 2 0 0", "wire 1 7 4 7 7");
    }

    private static void pullAndOfWire() {
        state("6 it was pulled out", WIRED + "pull 0;", "pull 0");
        state("6 it was pulled out, another was laid there", WIRED + "pull 0; wire 0 0 1 1 3;", "pull 0");
        index("6 no such wire", WIRED + "pull 0;", "pull 1", "pull -1");
        index("7 place below NONE", WIRED, "ofWire 0 -2", "ofWire 0 -3");
        index("7 place below NONE, pulled out", WIRED + "pull 0;", "ofWire 0 -2");
        index("7 both apply", WIRED, "ofWire 1 -2", "ofWire -1 -2");
    }

    private static void order() {
        state("9 there are 5", FIVE_ORDERS, "order 0 1", "order 255 99");
        argument("9 arguments, ahead of 5", FIVE_ORDERS, "order -1 1", "order 256 1", "order 0 0", "order 0 100",
            "order 256 0");
    }

    private static void reel() {
        state("14 there are 12", TWELVE_REELS, "reel 0 1 1", "reel 5 99 5000");
        index("14 no such part, ahead of the arguments", "", "reel 6 0 1", "reel -1 1 5001", "reel 6 100 0");
        index("14 no such part, ahead of 12", TWELVE_REELS, "reel 6 1 1", "reel -1 1 1");
        index("14 all apply", TWELVE_REELS, "reel 6 0 0", "reel -1 100 5001");
        argument("14 arguments, ahead of 12", TWELVE_REELS, "reel 0 0 1", "reel 0 100 1", "reel 0 1 0",
            "reel 0 1 5001");
    }

    private static void open() {
        state("15 it is open", "reel 0 1 9; open 0 false; pass 3;", "open 0 false");
        state("15 it is open, having been baked", "reel 0 1 9; open 0 true; pass 3;", "open 0 false");
        state("15 it is open, though run out", "reel 0 1 9; open 0 false; pass 10;", "open 0 false");
        state("15 it is open, though empty", "board; reel 0 1 9; open 0 false; place 0 0 0;", "open 0 false");
        index("15 no such reel", "reel 0 1 9; open 0 false;", "open 1 false", "open -1 false");
    }

    private static void board() {
        state("17 there are 12", TWELVE_BOARDS, "board");
        state("17 there are 12, all shipped", TWELVE_BOARDS + Told.times(12, "solder #; test #; ship #;"), "board");
    }

    private static void place() {
        state("18 the board was soldered", COLD, "place 0 0 0", "place 0 6 4");
        state("18 the board was shipped", SHIPPED, "place 0 0 0");
        state("18 there is a part in the slot", REELS, "place 0 7 0", "place 0 7 4");
        state("18 the reel is not open", REELS, "place 0 0 1");
        state("18 its clock has run out", REELS, "place 0 0 2");
        state("18 it is empty", REELS, "place 0 0 3");
        state("18 all of these", COLD, "place 0 7 1", "place 0 7 2", "place 0 7 3");
        index("18 no such one, ahead of soldered", COLD, "place 0 8 0", "place 0 -1 0", "place 0 0 5", "place 2 0 0");
        index("18 no such one, ahead of a part there", REELS, "place 0 7 5", "place 0 7 -1");
        index("18 no such one, ahead of a reel that gives none", REELS, "place 2 0 1", "place -1 0 2", "place 0 8 3",
            "place 0 -1 3");
    }

    private static void limits() {
        argument("19 high is below low", "", "limits false 0 200 199", "limits false 5 1 0", "limits false 0 400 0");
        argument("19 low and high are out of range", "", "limits false 0 401 401", "limits false 0 -1 -1");
        argument("19 the heat is, whatever the other one", "", "limits true 0 401 401", "limits true 3 -1 400");
        index("19 no such one, ahead of the arguments", "", "limits false 6 401 400", "limits false -1 0 401",
            "limits true 4 -1 0", "limits true -1 401 0", "limits false 6 2 1");
        index("19 a part that is no zone", "", "limits true 4 0 0", "limits true 5 0 0");
    }

    private static void solder() {
        state("20 it was soldered", COLD, "solder 0");
        state("20 it was soldered without a part", "board; solder 0;", "solder 0");
        state("20 it was shipped", SHIPPED, "solder 0");
    }

    private static void flaw() {
        state("21 it was not soldered", REELS, "flaw 0 7");
        state("21 it was shipped", SHIPPED, "flaw 0 7");
        state("21 there is no part", COLD, "flaw 0 0", "flaw 0 6");
        state("21 no part, not soldered", REELS, "flaw 0 0");
        state("21 no part, shipped", SHIPPED, "flaw 0 0");
        index("21 no such one, ahead of not soldered", REELS, "flaw 0 8", "flaw 0 -1", "flaw 2 7");
        index("21 no such one, ahead of shipped", SHIPPED, "flaw 0 8", "flaw 0 -1", "flaw -1 7");
    }

    private static void test() {
        state("23 it was not soldered", REELS, "test 0");
        state("23 not soldered, without a part", "board;", "test 0");
        state("23 it was shipped", SHIPPED, "test 0");
    }

    private static void repair() {
        state("24 it was repaired, and is faulty again", REPAIRED + "flaw 0 7; test 0;", "repair 0 7 0");
        state("24 the reel is of another part", FOUND, "repair 0 7 4");
        state("24 the reel is not open", FOUND, "repair 0 7 1");
        state("24 its clock has run out", FOUND, "repair 0 7 2");
        state("24 it is empty", FOUND, "repair 0 7 3");
        state("24 several of these", REPAIRED, "repair 0 7 4", "repair 0 7 1");
        index("24 no such one, ahead of no fault found", COLD, "repair 0 8 0", "repair 0 -1 0", "repair 0 7 5",
            "repair 0 7 -1", "repair 2 7 0");
        index("24 no such one, ahead of repaired", REPAIRED, "repair 0 7 5", "repair 0 7 -1", "repair 2 7 0");
        index("24 no such one, ahead of a reel that gives none", FOUND, "repair 0 8 1", "repair -1 7 2",
            "repair 2 7 3", "repair 0 -1 4");
    }

    private static void repairOfNoFault() {
        state("24 no part, no fault", FOUND, "repair 0 0 0");
        state("24 no fault there", REELS + "limits false 0 0 400; solder 0; test 0;", "repair 0 7 0");
        state("24 a fault, but never a test", COLD, "repair 0 7 0");
        state("24 a fault, not covered by the test", COLD + "cover 7 false; test 0;", "repair 0 7 0");
        state("24 not soldered", REELS, "repair 0 7 0");
        state("24 shipped, with a fault not found", COLD + "cover 7 false; cover 5 false; test 0; ship 0;",
            "repair 0 7 0");
        state("24 repaired, no fault any more", REPAIRED, "repair 0 7 0");
        state("24 a flaw in place of the found one", FOUND + "flaw 0 7;", "repair 0 7 0");
    }

    private static void ship() {
        state("25 it was shipped", SHIPPED, "ship 0");
        state("25 not soldered", REELS, "ship 0");
        state("25 never tested", REELS + "limits false 0 0 400; solder 0;", "ship 0");
        state("25 never tested, without a part", "board; solder 0;", "ship 0");
        state("25 a fault was found", FOUND, "ship 0");
        state("25 one fault of two is left", REPAIRED + "test 0;", "ship 0");
        state("25 not tested since it was repaired", REPAIRED + "repair 0 5 0;", "ship 0");
        state("25 a fault was found, and is not covered now", FOUND + "cover 7 false; cover 5 false; test 0;",
            "ship 0");
        state("25 a found one that cannot be repaired any more", REPAIRED + "repair 0 5 0; flaw 0 7; test 0;",
            "ship 0");
    }

    private static void pass() {
        String late = Told.times(10, "pass 999;");
        state("26 it would be above 9999", late, "pass 10", "pass 999");
        state("26 at the last minute", late + "pass 9;", "pass 1", "pass 999");
        argument("26 minutes, ahead of 9999", late + "pass 9;", "pass 0", "pass -1", "pass 1000", "pass 2147483647",
            "pass -2147483648");
    }
}
