/**
 * Each range of a parameter: its first and its last value are taken, the next ones outside, and those as far away as
 * there are, are refused and change nothing.
 */
public final class RangesTest {
    private static final int LEAST = Integer.MIN_VALUE;
    private static final int MOST = Integer.MAX_VALUE;
    private static final String THREE_CONNECTORS = "connector 0 8 0; connector 1 8 0; connector 0 8 0;";
    private static final String THREE_WIRES = "bundle 0 1 5 24; connector 0 8 0; connector 1 8 0;"
        + "wire 0 0 1 0 0; wire 1 1 0 1 7; wire 0 2 1 2 3;";
    private static final String THREE_REELS = Told.times(3, "reel 0 9 500; open # false;");
    private static final String THREE_BOARDS = Told.times(3, "board;");
    /** Three boards with a part in each slot, each of them COLD. */
    private static final String THREE_COLD = THREE_REELS + THREE_BOARDS
        + Told.times(8, "place 0 # 0; place 1 # 1; place 2 # 2;") + Told.times(3, "solder #;");
    private static final String THREE_TESTED = "reel 0 9 500; open 0 false; reel 0 9 500; open 1 false; reel 0 9 500;"
        + "open 2 false; reel 0 9 500; open 3 true;" + THREE_BOARDS
        + Told.times(8, "place 0 # 0; place 1 # 1; place 2 # 2;") + Told.times(3, "solder #; test #;");

    public static void main(String[] args) {
        nodesAndConnectors();
        wires();
        ordersAndCrimps();
        reels();
        boards();
        limits();
        solderedBoards();
        questionsOfBoards();
        Due.end();
    }

    private static void range(String of, String run, String call, int low, int high, String exception) {
        taken(of, run, call, low);
        taken(of, run, call, high);
        if (low > LEAST) {
            Look.refused(of + " below " + low, run, with(call, low - 1), exception);
            Look.refused(of + " far below", run, with(call, LEAST), exception);
        }
        if (high < MOST) {
            Look.refused(of + " above " + high, run, with(call, high + 1), exception);
            Look.refused(of + " far above", run, with(call, MOST), exception);
        }
    }

    private static String with(String call, int value) {
        return call.replace("?", Integer.toString(value));
    }

    private static void taken(String of, String run, String call, int value) {
        String answer = Told.answer(Told.after(run), with(call, value));
        Due.holds(of + ": " + with(call, value) + " answered " + answer, !Told.isRefused(answer));
    }

    private static void nodesAndConnectors() {
        range("2 node", "", "bundle ? 3 1 1", 0, 7, Told.INDEX);
        range("2 other", "", "bundle 3 ? 1 1", 0, 7, Told.INDEX);
        range("2 length", "", "bundle 0 1 ? 1", 1, 999, Told.ARGUMENT);
        range("2 room", "", "bundle 0 1 1 ?", 1, 24, Told.ARGUMENT);
        range("3 node", "", "connector ? 1 0", 0, 7, Told.INDEX);
        range("3 cavities", "", "connector 0 ? 0", 1, 8, Told.ARGUMENT);
        range("3 key", "", "connector 0 1 ?", 0, 9, Told.ARGUMENT);
        range("4 connector", THREE_CONNECTORS, "mates ? 1", 0, 2, Told.INDEX);
        range("4 other", THREE_CONNECTORS, "mates 1 ?", 0, 2, Told.INDEX);
    }

    private static void wires() {
        String run = "bundle 0 1 5 24;" + THREE_CONNECTORS;
        range("5 connector", run, "wire ? 0 1 0 0", 0, 2, Told.INDEX);
        range("5 other", run, "wire 1 0 ? 0 0", 0, 2, Told.INDEX);
        range("5 cavity of eight", run, "wire 0 ? 1 0 0", 0, 7, Told.INDEX);
        range("5 others of eight", run, "wire 0 0 1 ? 0", 0, 7, Told.INDEX);
        range("5 option", run, "wire 0 0 1 0 ?", 0, 7, Told.ARGUMENT);
        String small = "bundle 0 1 5 24; connector 0 1 0; connector 1 2 0;";
        range("5 cavity of one", small, "wire 0 ? 1 0 0", 0, 0, Told.INDEX);
        range("5 others of two", small, "wire 0 0 1 ? 0", 0, 1, Told.INDEX);
        range("5 cavity of two", small, "wire 1 ? 0 0 0", 0, 1, Told.INDEX);
        range("5 others of one", small, "wire 1 0 0 ? 0", 0, 0, Told.INDEX);
        range("6 wire", THREE_WIRES, "pull ?", 0, 2, Told.INDEX);
        range("7 wire", THREE_WIRES, "ofWire ? 0", 0, 2, Told.INDEX);
        range("7 wire for its length", THREE_WIRES, "ofWire ? -1", 0, 2, Told.INDEX);
        range("7 place", THREE_WIRES, "ofWire 2 ?", -1, MOST, Told.INDEX);
        range("7 place when pulled", THREE_WIRES + "pull 2;", "ofWire 2 ?", -1, MOST, Told.INDEX);
        range("8 options", THREE_WIRES, "weight ?", 0, 255, Told.ARGUMENT);
    }

    private static void ordersAndCrimps() {
        String run = THREE_WIRES + "order 1 1;";
        range("9 options", run, "order ? 1", 0, 255, Told.ARGUMENT);
        range("9 many", run, "order 0 ?", 1, 99, Told.ARGUMENT);
        range("10 families", run, "least ?", 1, 5, Told.ARGUMENT);
        range("10 families without orders", "", "least ?", 1, 5, Told.ARGUMENT);
        range("11 families", run, "leastAnew ?", 1, 5, Told.ARGUMENT);
        range("11 families without orders", "", "leastAnew ?", 1, 5, Told.ARGUMENT);
        range("12 force at first", "", "crimp ?", 1, 9999, Told.ARGUMENT);
        String crimped = Told.times(9, "crimp 100#;");
        range("12 force behind nine", crimped, "crimp ?", 1, 9999, Told.ARGUMENT);
        range("13 what", crimped, "crimps ?", 0, 2, Told.ARGUMENT);
        range("13 what at first", "", "crimps ?", 0, 2, Told.ARGUMENT);
    }

    private static void reels() {
        range("14 part", "", "reel ? 1 1", 0, 5, Told.INDEX);
        range("14 many", "", "reel 0 ? 1", 1, 99, Told.ARGUMENT);
        range("14 life", "", "reel 0 1 ?", 1, 5000, Told.ARGUMENT);
        String closed = Told.times(3, "reel 0 9 500;");
        range("15 reel", closed, "open ? false", 0, 2, Told.INDEX);
        range("15 reel to be baked", THREE_REELS, "open ? true", 0, 2, Told.INDEX);
        range("16 reel", THREE_REELS, "ofReel ? 0", 0, 2, Told.INDEX);
        range("16 reel for how many are left", THREE_REELS, "ofReel ? 1", 0, 2, Told.INDEX);
        range("16 reel for its clock", THREE_REELS, "ofReel ? 2", 0, 2, Told.INDEX);
        range("16 what", THREE_REELS, "ofReel 2 ?", 0, 2, Told.INDEX);
        range("16 what, not open", closed, "ofReel 2 ?", 0, 2, Told.INDEX);
        range("26 minutes", THREE_REELS, "pass ?", 1, 999, Told.ARGUMENT);
        range("26 minutes later", THREE_REELS + "pass 999;", "pass ?", 1, 999, Told.ARGUMENT);
        range("29 reel", THREE_REELS, "recall ?", 0, 2, Told.INDEX);
    }

    private static void boards() {
        String run = THREE_REELS + THREE_BOARDS;
        range("18 board", run, "place ? 0 0", 0, 2, Told.INDEX);
        range("18 slot", run, "place 0 ? 0", 0, 7, Told.INDEX);
        range("18 reel", run, "place 0 0 ?", 0, 2, Told.INDEX);
        range("20 board", run, "solder ?", 0, 2, Told.INDEX);
        range("22 slot", run, "cover ? false", 0, 7, Told.INDEX);
        range("22 slot to be covered", run + Told.times(8, "cover # false;"), "cover ? true", 0, 7, Told.INDEX);
    }

    private static void limits() {
        range("19 part", "", "limits false ? 0 0", 0, 5, Told.INDEX);
        range("19 zone", "", "limits true ? 0 0", 0, 3, Told.INDEX);
        range("19 low", "", "limits false 0 ? 400", 0, 400, Told.ARGUMENT);
        range("19 high of the least low", "", "limits false 5 0 ?", 0, 400, Told.ARGUMENT);
        range("19 high of a low", "", "limits false 5 200 ?", 200, 400, Told.ARGUMENT);
        range("19 high of the most low", "", "limits false 5 400 ?", 400, 400, Told.ARGUMENT);
        range("19 low of a high", "", "limits false 3 ? 200", 0, 200, Told.ARGUMENT);
        range("19 heat", "", "limits true 0 ? 400", 0, 400, Told.ARGUMENT);
        range("19 heat of the last zone", "", "limits true 3 ? -1", 0, 400, Told.ARGUMENT);
        range("19 the upper limit does not matter for a zone", "", "limits true 3 200 ?", LEAST, MOST, Told.ARGUMENT);
    }

    private static void solderedBoards() {
        range("21 board", THREE_COLD, "flaw ? 0", 0, 2, Told.INDEX);
        range("21 slot", THREE_COLD, "flaw 0 ?", 0, 7, Told.INDEX);
        range("23 board", THREE_COLD, "test ?", 0, 2, Told.INDEX);
        range("24 board", THREE_TESTED, "repair ? 0 3", 0, 2, Told.INDEX);
        range("24 slot", THREE_TESTED, "repair 0 ? 3", 0, 7, Told.INDEX);
        range("24 reel", THREE_TESTED, "repair 0 0 ?", 0, 3, Told.INDEX);
        range("25 board", THREE_BOARDS + Told.times(3, "solder #; test #;"), "ship ?", 0, 2, Told.INDEX);
    }

    private static void questionsOfBoards() {
        for (int what = 0; what < 4; what++) {
            range("27 board for " + what, THREE_TESTED, "ofSlot ? 0 " + what, 0, 2, Told.INDEX);
            range("27 slot for " + what, THREE_TESTED, "ofSlot 0 ? " + what, 0, 7, Told.INDEX);
        }
        range("27 what", THREE_TESTED, "ofSlot 0 0 ?", 0, 3, Told.INDEX);
        range("27 what without a part", THREE_BOARDS, "ofSlot 0 0 ?", 0, 3, Told.INDEX);
        range("28 board", THREE_TESTED, "jointAnew ? 0", 0, 2, Told.INDEX);
        range("28 slot", THREE_TESTED, "jointAnew 0 ?", 0, 7, Told.INDEX);
        range("28 board, not soldered", THREE_BOARDS, "jointAnew ? 0", 0, 2, Told.INDEX);
        range("28 slot without a part", THREE_BOARDS, "jointAnew 0 ?", 0, 7, Told.INDEX);
    }
}
