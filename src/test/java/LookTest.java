/**
 * A question changes nothing, which Look sees; and Look is worth asking: of each call that does change something, it
 * sees so.
 */
public final class LookTest {
    private static final String HARNESS = "bundle 0 1 5 2; bundle 1 2 5 2; connector 0 8 0; connector 1 8 0;"
        + "connector 2 8 0; connector 2 8 0; wire 0 0 1 0 0; wire 0 1 2 1 7; pull 0; order 1 2; order 128 3;";
    private static final String CRIMPS = Told.times(9, "crimp 100#;");
    private static final String BOARDS = "reel 0 9 500; open 0 false; reel 1 9 500; open 1 false; reel 0 9 500;"
        + "board; place 0 0 0; place 0 3 1; board; limits false 1 400 400; place 1 0 0; place 1 7 1; solder 1;";
    private static final String FOUND = BOARDS + "test 1;";
    private static final String REPAIRED = FOUND + "repair 1 7 1;";

    public static void main(String[] args) {
        questionsOfHarness();
        questionsOfBoards();
        changesOfHarness();
        changesOfCrimps();
        changesOfReels();
        changesOfBoards();
        changesOfTests();
        Due.end();
    }

    private static void asked(String run, String... calls) {
        for (String call : calls) {
            Look.asked(call, run, call);
        }
    }

    private static void changes(String run, String... calls) {
        for (String call : calls) {
            String answer = Told.answer(Told.after(run), call);
            Due.holds(call + " answered " + answer, !Told.isRefused(answer));
            Due.holds("a change is seen of " + call, !Look.change(run, call).isEmpty());
        }
    }

    private static void questionsOfHarness() {
        for (String run : new String[] {HARNESS, HARNESS + CRIMPS}) {
            asked(run, "ofWire 0 -1", "ofWire 0 0", "ofWire 1 -1", "ofWire 1 0", "ofWire 1 1", "ofWire 1 2");
            asked(run, "weight 0", "weight 255", "least 1", "least 5", "leastAnew 1", "leastAnew 5");
            asked(run, "crimps 0", "crimps 1", "crimps 2");
        }
        asked("", "weight 255", "least 1", "leastAnew 5", "crimps 0", "crimps 1", "crimps 2");
        asked("crimp 9; crimp 900;", "crimps 0", "crimps 1", "crimps 2");
    }

    private static void questionsOfBoards() {
        for (String run : new String[] {BOARDS, FOUND, REPAIRED, REPAIRED + "test 1; ship 1;"}) {
            for (int what = 0; what < 4; what++) {
                asked(run, "ofSlot 0 0 " + what, "ofSlot 1 7 " + what, "ofSlot 1 5 " + what);
            }
            asked(run, "ofReel 0 0", "ofReel 0 1", "ofReel 0 2", "ofReel 2 2");
            asked(run, "jointAnew 0 0", "jointAnew 1 0", "jointAnew 1 7", "jointAnew 1 5");
            asked(run, "recall 0", "recall 1", "recall 2");
        }
        asked(BOARDS + "pass 501;", "ofReel 0 2", "ofReel 1 2");
    }

    private static void changesOfHarness() {
        changes("", "bundle 0 1 5 1", "connector 0 8 0", "order 0 1");
        changes(HARNESS, "bundle 0 2 3 1", "bundle 0 1 1 1", "connector 3 1 1", "mates 0 2", "mates 3 1");
        changes(HARNESS, "wire 0 0 1 0 0", "wire 2 7 3 7 0", "wire 0 5 2 5 3", "pull 1");
        changes(HARNESS, "order 1 1", "order 0 1", "order 255 99");
    }

    private static void changesOfCrimps() {
        changes("", "crimp 1", "crimp 9999");
        changes("crimp 1000; crimp 1000;", "crimp 9", "crimp 1000");
        changes(CRIMPS, "crimp 9999", "crimp 1", "crimp 1004", "crimp 1008");
    }

    private static void changesOfReels() {
        changes("", "reel 0 1 1", "reel 5 99 5000");
        changes(BOARDS, "reel 3 3 3", "open 2 false", "open 2 true", "pass 1", "pass 600");
        changes(BOARDS + "pass 1;", "open 0 true");
        changes(BOARDS + "pass 501;", "open 0 true");
    }

    private static void changesOfBoards() {
        changes("", "board");
        changes(BOARDS, "board", "place 0 1 0", "place 0 7 1", "solder 0");
        for (int part = 0; part < 6; part++) {
            String limits = "limits false " + part;
            changes("", limits + " 0 260", limits + " 180 400", limits + " 181 200", limits + " 230 260");
        }
        for (int zone = 0; zone < 4; zone++) {
            changes("", "limits true " + zone + " 50 0", "limits true " + zone + " 400 0");
        }
        for (int slot = 0; slot < 8; slot++) {
            changes("", "cover " + slot + " false");
            changes("cover " + slot + " false;", "cover " + slot + " true");
        }
    }

    private static void changesOfTests() {
        changes(BOARDS, "flaw 1 0", "flaw 1 7", "test 1");
        changes(FOUND, "flaw 1 0", "flaw 1 7", "repair 1 7 1");
        changes(REPAIRED, "flaw 1 7", "test 1");
        changes(REPAIRED + "test 1;", "ship 1", "flaw 1 7");
        changes(REPAIRED + "flaw 1 0; test 1;", "repair 1 0 0");
        changes("board; solder 0;", "test 0");
    }
}
