/** What there is at most: the numbers from the first to the last one, full, and empty. */
public final class FullTest {
    private static final int NONE = Sparkline.NONE;
    private static final String LATE = Told.times(10, "pass 999;");
    private static final String OPEN = "board; reel 0 99 5000; open 0 false;";

    public static void main(String[] args) {
        numbers();
        cavities();
        rooms();
        wires();
        orders();
        reelIsUsedUp();
        clockRunsOut();
        minutes();
        slots();
        parts();
        covered();
        Due.end();
    }

    /** The call answers 0, 1 .. many - 1, and is then refused. */
    private static void counts(String of, String run, String call, int many) {
        for (int number = 0; number < many; number++) {
            Told.due(of, run + Told.times(number, call + ";"), call, number);
        }
        Look.refused(of + " is full", run + Told.times(many, call + ";"), call, Told.STATE);
    }

    private static void numbers() {
        counts("2 bundles", "", "bundle 0 1 1 1", 16);
        counts("3 connectors", "", "connector 0 8 0", 8);
        counts("9 orders", "", "order 0 1", 5);
        counts("14 reels", "", "reel 0 1 1", 12);
        counts("17 boards", "", "board", 12);
        String all = Told.times(16, "bundle 0 1 1 1;") + Told.times(8, "connector 0 8 0;")
            + Told.times(5, "order 0 1;") + Told.times(12, "reel 0 1 1; board;");
        Look.refused("2 all are full", all, "bundle 0 1 1 1", Told.STATE);
        Told.due("6 of all but wires", all, "wire 0 0 7 7 0", 0);
        Told.due("15 the last reel", all, "open 11 false", 1);
        Told.due("20 the last board", all, "solder 11", 233);
        Told.due("4 the last connector", all, "mates 6 7", 27);
        Told.due("2 the last bundle has room", Told.times(15, "bundle 0 2 1 1;")
            + "bundle 0 1 1 1; connector 0 1 0; connector 1 1 0; wire 0 0 1 0 0;", "ofWire 0 0", 15);
    }

    private static void cavities() {
        String run = "connector 3 8 0; connector 3 8 1;" + Told.times(7, "wire 0 # 1 # 0;");
        Told.due("5 the last free cavity", run, "wire 0 7 1 7 0", 7);
        String full = run + "wire 0 7 1 7 0; connector 3 8 2;";
        for (int cavity = 0; cavity < 8; cavity++) {
            Told.due("5 no free cavity", full, "wire 0 " + cavity + " 2 0 0", Told.STATE);
            Told.due("5 nor of the other", full, "wire 2 0 1 " + cavity + " 0", Told.STATE);
            Told.due("6 free then", full + "pull " + cavity + ";", "wire 0 " + cavity + " 2 0 0", 8);
        }
        String one = "connector 3 1 0; connector 3 1 0; connector 3 1 0;";
        Told.due("5 a connector's only cavity", one, "wire 0 0 1 0 0", 0);
        Told.due("5 it is full", one + "wire 0 0 1 0 0;", "wire 2 0 0 0 0", Told.STATE);
        Told.due("5 the other one too", one + "wire 0 0 1 0 0;", "wire 1 0 2 0 0", Told.STATE);
    }

    private static void rooms() {
        String ends = Told.times(3, "connector 0 8 0;") + Told.times(3, "connector 1 8 0;");
        String wires = Told.times(8, "wire 0 # 3 # 0;") + Told.times(8, "wire 1 # 4 # 0;");
        String most = "bundle 0 1 9 24;" + ends + wires + Told.times(7, "wire 2 # 5 # 0;");
        Told.due("2 room for 24", most, "wire 2 7 5 7 0", 23);
        Told.due("2 all of them by it", most + "wire 2 7 5 7 0;", "weight 1", 24 * 9);
        String less = "bundle 0 1 9 23;" + ends + wires + Told.times(7, "wire 2 # 5 # 0;");
        Look.refused("2 room for 23", less, "wire 2 7 5 7 0", Told.STATE);
        String one = "bundle 0 1 9 1;" + ends;
        Told.due("2 room for one", one, "wire 0 0 3 0 0", 0);
        Look.refused("2 room for no second one", one + "wire 0 0 3 0 0;", "wire 0 1 3 1 0", Told.STATE);
        Told.due("6 room for one again", one + "wire 0 0 3 0 0; pull 0;", "wire 0 1 3 1 0", 1);
        Look.refused("6 and no more", one + "wire 0 0 3 0 0; pull 0; wire 0 1 3 1 0;", "wire 0 0 3 0 0", Told.STATE);
        Told.due("2 full: by the longer way", one + "bundle 0 1 10 1; wire 0 0 3 0 0; wire 0 1 3 1 0;",
            "ofWire 1 0", 1);
        Told.due("2 room again: by the shorter one", one + "bundle 0 1 10 9; wire 0 0 3 0 0; wire 0 1 3 1 0; pull 0;"
            + "wire 0 2 3 2 0;", "ofWire 2 0", 0);
        Told.due("6 a laid one stays on its way", one + "bundle 0 1 10 1; wire 0 0 3 0 0; wire 0 1 3 1 0; pull 0;",
            "ofWire 1 0", 1);
    }

    private static void wires() {
        String run = "bundle 0 1 5 24; connector 0 8 0; connector 1 8 0;";
        String pulled = run + Told.times(23, "wire 0 0 1 0 0; pull #;");
        Told.due("5 the last of 24", pulled, "wire 0 0 1 0 0", 23);
        Look.refused("5 full, of which 23 are pulled out", pulled + "wire 0 0 1 0 0;", "wire 0 1 1 1 0", Told.STATE);
        Told.due("6 the last one", pulled + "wire 0 0 1 0 0;", "pull 23", 5);
        Told.due("7 the last one", pulled + "wire 0 0 1 0 0;", "ofWire 23 0", 0);
        Told.due("8 it weighs", pulled + "wire 0 0 1 0 0;", "weight 1", 5);
    }

    private static void orders() {
        String run = "bundle 0 1 7 24; connector 0 8 0; connector 1 8 0; wire 0 0 1 0 0; wire 0 7 1 7 7;";
        for (int families = 1; families <= 5; families++) {
            Told.due("10 no order", run, "least " + families, 0);
            Told.due("11 no order", run, "leastAnew " + families, 0);
            Told.due("10 one order", run + "order 129 3;", "least " + families, 42);
            Told.due("11 one order", run + "order 129 3;", "leastAnew " + families, 42);
            Told.due("10 an order of no options", run + "order 0 99;", "least " + families, 0);
            Told.due("11 an order of no options", run + "order 0 99;", "leastAnew " + families, 0);
            Told.due("10 no wire", Told.times(5, "order 255 99;"), "least " + families, 0);
            Told.due("11 no wire", Told.times(5, "order 255 99;"), "leastAnew " + families, 0);
        }
        String five = run + "order 1 99; order 0 1; order 128 1; order 0 1; order 129 1;";
        // One family: 103 times 14. Two: 101 times 7, and 28; three: 99 times 7, 0, and 28; four: 7 and 14 apart.
        int[] due = {1442, 735, 721, 714, 714};
        for (int families = 1; families <= 5; families++) {
            Told.due("10 five orders", five, "least " + families, due[families - 1]);
            Told.due("11 five orders", five, "leastAnew " + families, due[families - 1]);
        }
    }

    private static void reelIsUsedUp() {
        String run = Told.times(12, "board;") + Told.times(8, "cover # true;") + "reel 0 99 5000; open 0 false;";
        StringBuilder placed = new StringBuilder();
        for (int many = 0; many < 96; many++) {
            placed.append("place ").append(many / 8).append(' ').append(many % 8).append(" 0;");
        }
        Told.due("14 all of 99 but three", run + placed, "ofReel 0 1", 3);
        String two = "board; reel 3 2 50; open 0 false;";
        Told.due("18 one is left", two, "place 0 0 0", 1);
        Told.due("18 none is left", two + "place 0 0 0;", "place 0 1 0", 0);
        String none = two + "place 0 0 0; place 0 1 0;";
        Told.due("16 none is left", none, "ofReel 0 1", 0);
        Told.due("16 its part stays", none, "ofReel 0 0", 3);
        Told.due("16 its clock runs yet", none, "ofReel 0 2", 50);
        Look.refused("18 it is empty", none, "place 0 2 0", Told.STATE);
        Told.due("15 it can be baked", none + "pass 60;", "open 0 true", 50);
        Look.refused("18 it is empty, though baked", none + "open 0 true;", "place 0 2 0", Told.STATE);
        String last = "board; limits false 3 400 400; reel 3 2 50; open 0 false; place 0 0 0; solder 0; test 0;";
        Told.due("24 with the last one", last, "repair 0 0 0", 0);
        Told.due("24 none is left", last + "repair 0 0 0;", "ofReel 0 1", 0);
    }

    private static void clockRunsOut() {
        for (int life : new int[] {1, 2, 10, 998, 999}) {
            String run = "board; reel 0 9 " + life + "; pass 7; open 0 false;";
            Told.due("15 all its life", "reel 0 9 " + life + "; pass 7;", "open 0 false", life);
            Told.due("16 all its life", run, "ofReel 0 2", life);
            Told.due("16 its last minute", run + "pass " + life + ";", "ofReel 0 2", 0);
            Told.due("18 in its last minute", run + "pass " + life + ";", "place 0 0 0", 8);
            String out = run + "pass " + life + "; pass 1;";
            Told.due("16 run out", out, "ofReel 0 2", NONE);
            Look.refused("18 run out", out, "place 0 0 0", Told.STATE);
            Told.due("15 baked anew", out, "open 0 true", life);
            Told.due("16 baked anew", out + "open 0 true;", "ofReel 0 2", life);
            Told.due("18 baked anew", out + "open 0 true;", "place 0 0 0", 8);
        }
        String longest = "board; reel 0 9 5000; open 0 false;" + Told.times(5, "pass 999;");
        Told.due("16 five minutes of 5000", longest, "ofReel 0 2", 5);
        Told.due("16 the last of 5000", longest + "pass 5;", "ofReel 0 2", 0);
        Told.due("16 behind 5000", longest + "pass 6;", "ofReel 0 2", NONE);
        Told.due("16 far behind", longest + "pass 999;", "ofReel 0 2", NONE);
        String tested = "board; limits false 0 400 400; reel 0 9 4; open 0 false; place 0 0 0; solder 0; test 0;";
        Told.due("24 in its last minute", tested + "pass 4;", "repair 0 0 0", 0);
        Look.refused("24 run out", tested + "pass 5;", "repair 0 0 0", Told.STATE);
    }

    private static void minutes() {
        Told.due("26 the first one", "", "pass 1", 1);
        Told.due("26 the most at once", "", "pass 999", 999);
        Told.due("26 up to the last one", LATE, "pass 9", 9999);
        Look.refused("26 one above", LATE, "pass 10", Told.STATE);
        Told.due("26 one ahead of the last", LATE, "pass 8", 9998);
        Told.due("26 by one", LATE + "pass 8;", "pass 1", 9999);
        Look.refused("26 by one too many", LATE + "pass 9;", "pass 1", Told.STATE);
        String end = OPEN + LATE + "pass 9; open 0 true;";
        Told.due("16 a clock begun at the last minute", end, "ofReel 0 2", 5000);
        Told.due("27 placed at the last minute", end + "place 0 7 0;", "ofSlot 0 7 1", 9999);
        Told.due("27 placed at the minute 0", OPEN + "place 0 7 0;", "ofSlot 0 7 1", 0);
    }

    private static void slots() {
        for (int slot = 0; slot < 8; slot++) {
            String one = OPEN + "place 0 " + slot + " 0;";
            for (int other = 0; other < 8; other++) {
                Told.due("27 of eight one", one, "ofSlot 0 " + other + " 0", other == slot ? 0 : NONE);
            }
            Look.refused("18 the slot is full", one, "place 0 " + slot + " 0", Told.STATE);
        }
        Told.due("18 the last slot", OPEN + Told.times(7, "place 0 # 0;"), "place 0 7 0", 91);
        Told.due("20 all slots full", OPEN + Told.times(8, "place 0 # 0;"), "solder 0", 133);
        Told.due("20 all slots empty", OPEN, "solder 0", 233);
        Told.due("23 all slots empty", OPEN + "solder 0;", "test 0", 0);
        Told.due("25 all slots empty", OPEN + "solder 0; test 0;", "ship 0", 0);
        Told.due("29 all slots empty", OPEN + "solder 0; test 0; ship 0;", "recall 0", 0);
        String cold = OPEN + Told.times(8, "place 0 # 0;") + "solder 0;";
        Told.due("23 all slots faulty", cold, "test 0", 8);
        Told.due("24 one of eight", cold + "test 0;", "repair 0 7 0", 7);
        String mended = cold + "test 0;" + Told.times(8, "repair 0 # 0;");
        Told.due("23 all were repaired", mended, "test 0", 0);
        Told.due("25 all were repaired", mended + "test 0;", "ship 0", 0);
    }

    private static void parts() {
        for (int part = 0; part < 6; part++) {
            String run = "reel " + part + " 9 50;";
            Told.due("16 its part", run, "ofReel 0 0", part);
            Told.due("16 not open", run, "ofReel 0 2", NONE);
            for (int other = 0; other < 6; other++) {
                String tested = "board; limits false " + part + " 400 400;" + run + "open 0 false; place 0 0 0;"
                    + "solder 0; test 0; reel " + other + " 9 50; open 1 false;";
                Told.due("24 the same kind alone", tested, "repair 0 0 1", part == other ? "0" : Told.STATE);
            }
        }
        Told.due("14 all of 99", "reel 0 99 1;", "ofReel 0 1", 99);
        Told.due("14 one alone", "reel 0 1 1;", "ofReel 0 1", 1);
    }

    private static void covered() {
        String none = Told.times(8, "cover # false;");
        String cold = OPEN + Told.times(8, "place 0 # 0;") + "solder 0;";
        Told.due("22 the last one off", Told.times(7, "cover # false;"), "cover 7 false", 0);
        Told.due("22 off again", none, "cover 7 false", 0);
        Told.due("22 all are on, and again", "", "cover 7 true", 8);
        Told.due("23 none is covered", cold + none, "test 0", 0);
        Told.due("25 none is covered", cold + none + "test 0;", "ship 0", 8);
        for (int slot = 0; slot < 8; slot++) {
            Told.due("22 one off", "", "cover " + slot + " false", 7);
            Told.due("22 one on", none, "cover " + slot + " true", 1);
            Told.due("23 one is covered", cold + none + "cover " + slot + " true;", "test 0", 1);
            Told.due("23 all but one", cold + "cover " + slot + " false;", "test 0", 7);
            Told.due("25 all but one", cold + "cover " + slot + " false; test 0;" + repairAllBut(slot) + "test 0;",
                "ship 0", 1);
        }
    }

    private static String repairAllBut(int slot) {
        return Told.times(8, "repair 0 # 0;").replace("repair 0 " + slot + " 0;", "");
    }
}
