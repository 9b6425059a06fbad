/**
 * The sentences that name an edge in words: 'at first', 'ahead of three good ones', 'or as many as there are', 'NONE
 * behind the last one', 'NONE without' and the like.
 */
public final class WordsTest {
    private static final int NONE = Sparkline.NONE;
    private static final int GOOD = Sparkline.GOOD;
    private static final int COLD = Sparkline.COLD;
    private static final int BURNT = Sparkline.BURNT;
    private static final int HIDDEN = Sparkline.HIDDEN;
    private static final String OPEN = "board; reel 0 99 5000; open 0 false;";
    /** With two parts the peak is 204, above the upper limit: both are BURNT. */
    private static final String BURNED = "limits false 0 0 203;" + OPEN + "place 0 2 0; place 0 5 0; solder 0;";

    public static void main(String[] args) {
        aheadOfThreeGoodOnes();
        asManyAsThereAre();
        tenTimesTheDifference();
        behindTheLastBundle();
        pulledOut();
        ofThoseTheFewest();
        nothingBuiltAtFirst();
        heatsAtFirst();
        limitsAtFirst();
        roundedDownBelowZero();
        limitsToldLater();
        ofReel();
        withoutAPart();
        withoutAFault();
        tested();
        fitWrong();
        recalled();
        Due.end();
    }

    private static String crimps(int... forces) {
        StringBuilder run = new StringBuilder();
        for (int force : forces) {
            run.append("crimp ").append(force).append(';');
        }
        return run.toString();
    }

    private static void aheadOfThreeGoodOnes() {
        Told.due("13 no crimp", "", "crimps 2", 0);
        Told.due("13 one", crimps(100), "crimps 2", 0);
        Told.due("13 two", crimps(100, 200), "crimps 2", 0);
        Told.due("13 three", crimps(100, 200, 301), "crimps 2", 200);
        Told.due("12 the first is good", "", "crimp 9999", "true");
        Told.due("12 the second is, whatever the first", crimps(9999), "crimp 1", "true");
        Told.due("12 the third is", crimps(9999, 1), "crimp 1", "true");
        Told.due("12 the fourth need not be", crimps(9999, 1, 1), "crimp 1", "false");
        Told.due("13 three were good", crimps(9999, 1, 1), "crimps 1", 3);
        Told.due("13 the fourth is counted", crimps(9999, 1, 1, 1), "crimps 0", 4);
        Told.due("13 and is not good", crimps(9999, 1, 1, 1), "crimps 1", 3);
        Told.due("13 the window stays", crimps(9999, 1, 1, 1), "crimps 2", 3333);
    }

    private static void asManyAsThereAre() {
        int[] forces = {1000, 1010, 1020, 1030, 1040, 1050, 1060, 1070, 1080, 1090, 1100, 1010, 1020, 1030, 1040, 1050,
            1060, 1070};
        int[] windows = {0, 0, 1010, 1015, 1020, 1025, 1030, 1035, 1045, 1055, 1065, 1062, 1060, 1057, 1055, 1052, 1050,
            1047};
        for (int many = 1; many <= forces.length; many++) {
            String run = crimps(java.util.Arrays.copyOf(forces, many));
            Told.due("13 good ones", run, "crimps 1", many);
            Told.due("13 the latest eight, or as many as there are", run, "crimps 2", windows[many - 1]);
            Told.due("13 bad ones are none of these", run + crimps(1, 9999), "crimps 2",
                many < 3 ? windowOfFirst(many, forces) : windows[many - 1]);
        }
    }

    /** The first three are good, be they as far off as 1 and 9999. */
    private static int windowOfFirst(int many, int[] forces) {
        return many == 1 ? (forces[0] + 1 + 9999) / 3 : (forces[0] + forces[1] + 1) / 3;
    }

    private static void tenTimesTheDifference() {
        String hundred = crimps(100, 100, 100);
        Told.due("12 a tenth above", hundred, "crimp 110", "true");
        Told.due("12 more than a tenth above", hundred, "crimp 111", "false");
        Told.due("12 a tenth below", hundred, "crimp 90", "true");
        Told.due("12 more than a tenth below", hundred, "crimp 89", "false");
        String less = crimps(99, 99, 101);
        Told.due("13 rounded down", less, "crimps 2", 99);
        Told.due("12 nine of 99 above", less, "crimp 108", "true");
        Told.due("12 ten of 99 above", less, "crimp 109", "false");
        Told.due("12 nine of 99 below", less, "crimp 90", "true");
        Told.due("12 ten of 99 below", less, "crimp 89", "false");
        Told.due("12 none of 9", crimps(9, 9, 9), "crimp 9", "true");
        Told.due("12 one of 9", crimps(9, 9, 9), "crimp 10", "false");
        Told.due("12 one of 10", crimps(10, 10, 10), "crimp 9", "true");
        Told.due("12 of the most", crimps(9999, 9999, 9999), "crimp 9000", "true");
        Told.due("12 of the most, one too few", crimps(9999, 9999, 9999), "crimp 8999", "false");
        Told.due("12 of the least", crimps(1, 1, 1), "crimp 1", "true");
        Told.due("12 of the least, one too many", crimps(1, 1, 1), "crimp 2", "false");
    }

    private static void behindTheLastBundle() {
        StringBuilder chain = new StringBuilder("connector 0 1 0;");
        for (int node = 1; node < 8; node++) {
            chain.append("bundle ").append(node - 1).append(' ').append(node).append(" 999 1;");
            String run = chain + "connector " + node + " 1 0; wire 0 0 1 0 0;";
            Told.due("7 the length of " + node, run, "ofWire 0 -1", 999 * node);
            for (int place = 0; place < node; place++) {
                Told.due("7 each bundle of " + node, run, "ofWire 0 " + place, place);
            }
            Told.due("7 behind the last of " + node, run, "ofWire 0 " + node, NONE);
            Told.due("7 further behind", run, "ofWire 0 " + (node + 1), NONE);
            Told.due("7 furthest behind", run, "ofWire 0 2147483647", NONE);
        }
        String none = "bundle 0 1 3 24; connector 0 1 0; connector 0 1 0; wire 0 0 1 0 0;";
        Told.due("7 at one node: the length", none, "ofWire 0 -1", 0);
        Told.due("7 at one node: no bundle", none, "ofWire 0 0", NONE);
        Told.due("6 at one node", none, "pull 0", 0);
        Told.due("8 at one node", none, "weight 255", 0);
    }

    private static void pulledOut() {
        String run = "bundle 0 1 3 24; bundle 1 2 4 24; connector 0 1 0; connector 2 1 0; wire 0 0 1 0 6;";
        Told.due("7 the length", run, "ofWire 0 -1", 7);
        Told.due("6 its length", run, "pull 0", 7);
        Told.due("7 0 if it was pulled out", run + "pull 0;", "ofWire 0 -1", 0);
        for (int place = 0; place < 3; place++) {
            Told.due("7 NONE if it was pulled out", run + "pull 0;", "ofWire 0 " + place, NONE);
        }
        Told.due("7 NONE furthest behind", run + "pull 0;", "ofWire 0 2147483647", NONE);
        Told.due("8 not pulled out", run, "weight 64", 7);
        Told.due("8 pulled out", run + "pull 0;", "weight 64", 0);
        String anew = run + "pull 0; wire 0 0 1 0 6;";
        Told.due("7 it stays pulled out", anew, "ofWire 0 -1", 0);
        Told.due("7 another one was laid", anew, "ofWire 1 -1", 7);
        Told.due("8 another one was laid", anew, "weight 64", 7);
        Told.due("10 another one was laid", anew + "order 64 2;", "least 1", 14);
    }

    private static void ofThoseTheFewest() {
        String ends = "connector 0 8 0; connector 2 8 0;";
        Told.due("5 shorter by more bundles", "bundle 0 2 11 9; bundle 0 1 5 9; bundle 1 2 5 9;" + ends
            + "wire 0 0 1 0 0;", "ofWire 0 0", 1);
        Told.due("5 as short by fewer", "bundle 0 1 5 9; bundle 1 2 5 9; bundle 0 2 10 9;" + ends + "wire 0 0 1 0 0;",
            "ofWire 0 0", 2);
        String two = "bundle 2 3 5 9; bundle 0 1 5 9; bundle 1 2 5 9; bundle 3 0 5 9;" + ends;
        Told.due("5 the lowest first", two + "wire 0 0 1 0 0;", "ofWire 0 0", 1);
        Told.due("5 then its second", two + "wire 0 0 1 0 0;", "ofWire 0 1", 2);
        Told.due("5 the lowest from the other end", two + "wire 1 0 0 0 0;", "ofWire 0 0", 0);
        Told.due("5 and its second", two + "wire 1 0 0 0 0;", "ofWire 0 1", 3);
        String last = "bundle 1 2 5 1; bundle 2 1 5 1; bundle 0 1 5 9;" + ends + "wire 0 0 1 0 0;";
        Told.due("5 the lowest second", last, "ofWire 0 1", 0);
        Told.due("5 the next one with room", last + "wire 0 1 1 1 0;", "ofWire 1 1", 1);
        Look.refused("5 no room any more", last + "wire 0 1 1 1 0;", "wire 0 2 1 2 0", Told.STATE);
    }

    private static void nothingBuiltAtFirst() {
        for (String first : new String[] {"bundle 0 1 1 1", "connector 0 1 0", "order 0 1", "reel 0 1 1", "board"}) {
            Told.due("1 nothing built", "", first, 0);
        }
        Told.due("1 no wire", "connector 0 1 0; connector 0 1 0;", "wire 0 0 1 0 0", 0);
        Told.due("1 no weight", "", "weight 255", 0);
        Told.due("1 no crimp", "", "crimps 0", 0);
        Told.due("1 no good crimp", "", "crimps 1", 0);
        Told.due("1 the minute 0", "", "pass 1", 1);
        Told.due("1 placed in the minute 0", OPEN + "place 0 0 0;", "ofSlot 0 0 1", 0);
        for (int slot = 0; slot < 8; slot++) {
            Told.due("22 all slots are covered at first", "", "cover " + slot + " true", 8);
        }
    }

    private static void heatsAtFirst() {
        Told.due("20 of all zones", "board;", "solder 0", 233);
        int[] peaks = {134, 175, 210, 87};
        for (int zone = 0; zone < 4; zone++) {
            StringBuilder run = new StringBuilder("board;");
            for (int other = 0; other < 4; other++) {
                run.append(other == zone ? "" : "limits true " + other + " 0 0;");
            }
            Told.due("20 of the zone " + zone + " alone", run.toString(), "solder 0", peaks[zone]);
            Told.due("19 a part of its number changes none", run + "limits false " + zone + " 0 0;", "solder 0",
                peaks[zone]);
        }
        int[] massive = {233, 220, 204, 188, 173, 162, 150, 141, 133};
        for (int many = 0; many <= 8; many++) {
            Told.due("20 with " + many + " parts", OPEN + Told.times(many, "place 0 # 0;"), "solder 0", massive[many]);
        }
    }

    /** What becomes of a joint of each part on a board of one, where all zones have a heat that makes this peak. */
    private static void joint(String sentence, String limits, int heat, int peak, int due) {
        for (int part = 0; part < 6; part++) {
            String run = "board; reel " + part + " 9 50; open 0 false; place 0 4 0;"
                + Told.times(4, "limits true # " + heat + " 0;") + limits.replace("?", Integer.toString(part));
            Told.due(sentence + ": the peak", run, "solder 0", peak);
            Told.due(sentence, run + "solder 0;", "jointAnew 0 4", due);
            Told.due(sentence + ": its fault", run + "solder 0; test 0;", "ofSlot 0 4 2", due);
            Told.due(sentence + ": counted", run + "solder 0;", "test 0", due == GOOD ? 0 : 1);
        }
    }

    private static void limitsAtFirst() {
        joint("19 below 180", "", 181, 179, COLD);
        joint("19 at 180", "", 182, 180, GOOD);
        joint("19 at 260", "", 263, 260, GOOD);
        joint("19 above 260", "", 264, 261, BURNT);
        joint("19 the limits are one", "limits false ? 200 200;", 202, 200, GOOD);
        joint("19 one below it", "limits false ? 201 201;", 202, 200, COLD);
        joint("19 one above it", "limits false ? 199 199;", 202, 200, BURNT);
        joint("19 all is good", "limits false ? 0 400;", 202, 200, GOOD);
        joint("19 nothing is: cold", "limits false ? 400 400;", 400, 396, COLD);
        joint("19 nothing is: burnt", "limits false ? 0 0;", 0, 16, BURNT);
        String others = Told.times(6, "limits false # 400 400;");
        joint("19 of this part alone", others + "limits false ? 200 200;", 202, 200, GOOD);
    }

    private static void roundedDownBelowZero() {
        String cold = Told.times(4, "limits true # 0 0;") + OPEN;
        // By 25 divided by the mass, rounded down: the heat behind the first minute is the greatest one.
        int[] peaks = {12, 16, 18, 20, 20, 21, 21, 22, 22};
        for (int many = 0; many <= 8; many++) {
            Told.due("20 colder by each minute", cold + Told.times(many, "place 0 # 0;"), "solder 0", peaks[many]);
        }
        String last = "limits true 0 0 0; limits true 1 0 0; limits true 2 0 0;" + OPEN;
        Told.due("20 down to 0, and up again", last + "limits true 3 8 0;", "solder 0", 12);
        Told.due("20 up from 0 alone", last + "limits true 3 100 0;", "solder 0", 87);
        Told.due("20 the heat 25 stays", Told.times(4, "limits true # 25 0;") + OPEN, "solder 0", 25);
        Told.due("20 one less than 25", Told.times(4, "limits true # 24 0;") + OPEN, "solder 0", 24);
        Told.due("20 one more than 25", Told.times(4, "limits true # 26 0;") + OPEN, "solder 0", 25);
    }

    private static void limitsToldLater() {
        String later = "limits false 0 400 400;" + Told.times(4, "limits true # 0 0;");
        Told.due("28 the joint as it was", BURNED + later, "jointAnew 0 2", BURNT);
        Told.due("23 the faults as they were", BURNED + later, "test 0", 2);
        Told.due("27 as it was found", BURNED + later + "test 0;", "ofSlot 0 2 2", BURNT);
        Told.due("28 and of no part", BURNED + later, "jointAnew 0 3", NONE);
        Told.due("28 behind a flaw", BURNED + "flaw 0 2;" + later, "jointAnew 0 2", BURNT);
        Told.due("28 behind a repair", BURNED + "test 0; repair 0 2 0;" + later, "jointAnew 0 2", BURNT);
        Told.due("28 behind shipping", BURNED + "test 0; repair 0 2 0; repair 0 5 0; test 0; ship 0;" + later,
            "jointAnew 0 5", BURNT);
        Told.due("28 a board of its own", BURNED + later + "board; place 1 2 0; solder 1;", "jointAnew 1 2", COLD);
    }

    private static void ofReel() {
        Told.due("16 not open", "reel 4 7 30;", "ofReel 0 2", NONE);
        Told.due("16 not open, though older than its life", "reel 4 7 30; pass 31;", "ofReel 0 2", NONE);
        Told.due("15 opened later", "reel 4 7 30; pass 31;", "open 0 false", 30);
        Told.due("15 baked, never opened", "reel 4 7 30; pass 31;", "open 0 true", 30);
        Told.due("15 baked while it runs", "reel 4 7 30; open 0 false; pass 29;", "open 0 true", 30);
        Told.due("16 baked while it runs", "reel 4 7 30; open 0 false; pass 29; open 0 true; pass 30;", "ofReel 0 2",
            0);
        Told.due("16 soldering is none of the clock", "reel 4 7 30; open 0 false; board; solder 0;", "ofReel 0 2", 30);
    }

    private static void withoutAPart() {
        for (String run : new String[] {OPEN, OPEN + "place 0 1 0;", OPEN + "solder 0; test 0; ship 0;", BURNED}) {
            Told.due("27 the reel, NONE without", run, "ofSlot 0 0 0", NONE);
            Told.due("27 the minute, NONE without", run, "ofSlot 0 0 1", NONE);
            Told.due("27 the fault, GOOD without", run, "ofSlot 0 0 2", GOOD);
            Told.due("27 not repaired", run, "ofSlot 0 0 3", 0);
            Told.due("28 NONE without", run, "jointAnew 0 0", NONE);
        }
        Told.due("28 a part, not soldered", OPEN + "place 0 1 0;", "jointAnew 0 1", NONE);
        Told.due("28 a part, soldered", OPEN + "place 0 1 0; solder 0;", "jointAnew 0 1", GOOD);
    }

    private static void withoutAFault() {
        Told.due("27 no fault", OPEN + "place 0 1 0; solder 0; test 0;", "ofSlot 0 1 2", GOOD);
        Told.due("27 not tested", BURNED, "ofSlot 0 2 2", GOOD);
        Told.due("27 found", BURNED + "test 0;", "ofSlot 0 2 2", BURNT);
        Told.due("27 not covered", BURNED + "cover 2 false; test 0;", "ofSlot 0 2 2", GOOD);
        Told.due("27 not covered later", BURNED + "test 0; cover 2 false; test 0;", "ofSlot 0 2 2", BURNT);
        Told.due("27 repaired", BURNED + "test 0; repair 0 2 0;", "ofSlot 0 2 2", GOOD);
        Told.due("27 it was repaired", BURNED + "test 0; repair 0 2 0;", "ofSlot 0 2 3", 1);
        Told.due("27 the other one was not", BURNED + "test 0; repair 0 2 0;", "ofSlot 0 5 3", 0);
        Told.due("27 in the minute of the repair", BURNED + "pass 8; test 0; repair 0 2 0;", "ofSlot 0 2 1", 8);
        Told.due("27 the other one's minute", BURNED + "pass 8; test 0; repair 0 2 0;", "ofSlot 0 5 1", 0);
        Told.due("21 a flaw is not found yet", BURNED + "flaw 0 2;", "ofSlot 0 2 2", GOOD);
        Told.due("21 a flaw in place of a found one", BURNED + "test 0; flaw 0 2;", "ofSlot 0 2 2", GOOD);
        Told.due("21 a flaw found", BURNED + "flaw 0 2; test 0;", "ofSlot 0 2 2", HIDDEN);
        Told.due("21 of a good joint", OPEN + "place 0 1 0; solder 0; flaw 0 1; test 0;", "ofSlot 0 1 2", HIDDEN);
        Told.due("21 of a repaired one", BURNED + "test 0; repair 0 2 0; flaw 0 2; test 0;", "ofSlot 0 2 2", HIDDEN);
        Told.due("21 it stays repaired", BURNED + "test 0; repair 0 2 0; flaw 0 2; test 0;", "ofSlot 0 2 3", 1);
    }

    private static void tested() {
        Told.due("23 those found ahead with them", BURNED + "cover 5 false; test 0; cover 5 true; cover 2 false;",
            "test 0", 2);
        Told.due("23 covered then, not later", BURNED + "cover 5 false; test 0; cover 5 true;", "ofSlot 0 5 2", GOOD);
        Told.due("23 again", BURNED + "test 0;", "test 0", 2);
        Told.due("24 one is left", BURNED + "test 0;", "repair 0 5 0", 1);
        Told.due("24 one that was not found is not counted", BURNED + "cover 2 false; test 0;", "repair 0 5 0", 0);
        Told.due("25 of which one was not found", BURNED + "cover 2 false; test 0; repair 0 5 0; test 0;", "ship 0", 1);
        Told.due("25 a flaw behind the test", OPEN + "place 0 1 0; solder 0; test 0; flaw 0 1;", "ship 0", 1);
        Told.due("25 no fault", OPEN + "place 0 1 0; solder 0; test 0;", "ship 0", 0);
        Told.due("25 a flaw in place of a found one", BURNED + "cover 5 false; test 0; flaw 0 2;", "ship 0", 2);
    }

    private static void fitWrong() {
        Told.due("4 the only pair", "connector 0 8 9; connector 0 8 9;", "mates 0 1", 0);
        Told.due("4 told the other way round", "connector 0 8 9; connector 0 8 9;", "mates 1 0", 0);
        String all = Told.times(8, "connector # 1 0;");
        Told.due("4 one pair of 28", all, "mates 0 7", 27);
        Told.due("4 the last pair", all + "mates 0 7; mates 6 1; mates 2 5;", "mates 4 3", 24);
        Told.due("4 of two kinds", "connector 0 8 0; connector 0 8 1; connector 0 8 1; connector 0 7 1;"
            + "connector 0 8 0; connector 0 7 1;", "mates 0 4", 2);
    }

    private static void recalled() {
        String shipped = OPEN + "reel 0 9 50; open 1 false; place 0 2 0; place 0 5 0; solder 0; flaw 0 2; test 0;";
        Told.due("29 not shipped", shipped, "recall 0", 0);
        Told.due("29 one board, of two slots", BURNED + "cover 2 false; cover 5 false; test 0; ship 0;", "recall 0", 1);
        Told.due("29 of one slot yet", shipped + "repair 0 2 1; test 0; ship 0;", "recall 0", 1);
        Told.due("29 of the other reel now", shipped + "repair 0 2 1; test 0; ship 0;", "recall 1", 1);
        String both = shipped + "repair 0 2 1; flaw 0 5; test 0; repair 0 5 1; test 0; ship 0;";
        Told.due("29 of none now", both, "recall 0", 0);
        Told.due("29 of both now", both, "recall 1", 1);
        for (int slot = 0; slot < 8; slot++) {
            Told.due("29 in this slot alone", OPEN + "place 0 " + slot + " 0; solder 0; test 0; ship 0;",
                "recall 0", 1);
        }
        Told.due("29 a reel of which none was placed", "reel 0 1 1;"
            + Told.times(12, "board; solder #; test #; ship #;"), "recall 0", 0);
        String twelve = Told.times(12, "board;") + "reel 0 99 5000; open 0 false;"
            + Told.times(12, "place # 7 0; solder #; test #; ship #;");
        Told.due("29 all boards", twelve, "recall 0", 12);
    }
}
