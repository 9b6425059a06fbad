/** The promises 12 to 29: crimps, reels and boards. */
public final class BoardPromisesTest {
    private static final int NONE = -1;
    private static final int[] NO_SLOTS = {-1, 8, Integer.MIN_VALUE, Integer.MAX_VALUE};

    public static void main(String[] args) {
        crimp();
        crimpWindowDrifts();
        crimps();
        reel();
        open();
        ofReel();
        board();
        place();
        placeFromReels();
        limits();
        solder();
        solderInColdZones();
        flaw();
        cover();
        test();
        repair();
        repairFromReels();
        ship();
        pass();
        ofSlot();
        jointAnew();
        recall();
        Due.end();
    }

    /** An open reel 0 of the part 0 with 99, and a board 0. */
    private static Sparkline oneBoard() {
        Sparkline x = new Sparkline();
        x.reel(0, 99, 5000);
        x.open(0, false);
        x.board();
        return x;
    }

    /** The same with parts in the slots 0 to 7 but for 6, all COLD: the peak is 141. */
    private static Sparkline coldBoard() {
        Sparkline x = oneBoard();
        for (int slot : new int[] {0, 1, 2, 3, 4, 5, 7}) {
            x.place(0, slot, 0);
        }
        x.solder(0);
        return x;
    }

    private static void good(Sparkline x, int force, boolean isDue) {
        Due.is("12 crimp(" + force + ")", isDue ? 1 : 0, () -> x.crimp(force) ? 1 : 0);
    }

    private static void window(Sparkline x, int due) {
        Due.is("13 window", due, () -> x.crimps(2));
    }

    private static void crimp() {
        Sparkline x = new Sparkline();
        for (int force : new int[] {0, -1, 10000, Integer.MIN_VALUE, Integer.MAX_VALUE}) {
            Due.argument("12 force", () -> x.crimp(force));
        }
        good(x, 1, true);
        good(x, 9999, true);
        window(x, 0);
        good(x, 200, true);
        window(x, 3400);
        good(x, 3060, true);
        window(x, 3315);
        good(x, 3647, false);
        good(x, 2983, false);
        good(x, 3646, true);
        window(x, 3381);
        // The window 3381 allows 338: 3043 to 3719.
        good(x, 3042, false);
        good(x, 3043, true);
        window(x, 3324);

        Sparkline small = new Sparkline();
        good(small, 9, true);
        good(small, 9, true);
        good(small, 9, true);
        good(small, 8, false);
        good(small, 10, false);
        good(small, 9, true);
    }

    private static void crimpWindowDrifts() {
        Sparkline x = new Sparkline();
        good(x, 1000, true);
        good(x, 2000, true);
        good(x, 3000, true);
        for (int many = 0; many < 5; many++) {
            good(x, 2000, true);
        }
        window(x, 2000);
        good(x, 2200, true);
        window(x, 2150);
        good(x, 9999, false);
        window(x, 2150);
        good(x, 2000, true);
        window(x, 2150);
        good(x, 2000, true);
        window(x, 2025);
        for (int force = 2025; force < 2225; force += 25) {
            good(x, force, true);
        }
        // 2025, 2050 .. 2200
        window(x, 2112);
        good(x, 1, false);
        good(x, 2323, true);
        window(x, 2149);
    }

    private static void crimps() {
        Sparkline x = new Sparkline();
        for (int what : new int[] {-1, 3, Integer.MIN_VALUE, Integer.MAX_VALUE}) {
            Due.argument("13 what", () -> x.crimps(what));
        }
        x.crimp(10);
        x.crimp(20);
        Due.is("13 two", 2, () -> x.crimps(0));
        Due.is("13 two good", 2, () -> x.crimps(1));
        window(x, 0);
        x.crimp(31);
        window(x, 20);
        x.crimp(99);
        Due.is("13 the bad one too", 4, () -> x.crimps(0));
        Due.is("13 three good", 3, () -> x.crimps(1));
        Due.argument("12 no crimp", () -> x.crimp(0));
        Due.is("13 refused ones not", 4, () -> x.crimps(0));
        window(x, 20);
    }

    private static void reel() {
        Sparkline x = new Sparkline();
        for (int part : new int[] {-1, 6, Integer.MIN_VALUE, Integer.MAX_VALUE}) {
            Due.index("14 part", () -> x.reel(part, 1, 1));
            Due.index("14 part ahead of many", () -> x.reel(part, 0, 0));
        }
        for (int many : new int[] {0, -1, 100, Integer.MIN_VALUE, Integer.MAX_VALUE}) {
            Due.argument("14 many", () -> x.reel(0, many, 1));
        }
        for (int life : new int[] {0, -1, 5001, Integer.MIN_VALUE, Integer.MAX_VALUE}) {
            Due.argument("14 life", () -> x.reel(0, 1, life));
        }
        Due.is("14 least", 0, () -> x.reel(0, 1, 1));
        Due.is("14 most", 1, () -> x.reel(5, 99, 5000));
        for (int number = 2; number < 12; number++) {
            int due = number;
            Due.is("14 number", due, () -> x.reel(0, 1, 1));
        }
        Due.state("14 there are 12", () -> x.reel(0, 1, 1));
        Due.argument("14 many ahead of 12", () -> x.reel(0, 0, 1));
        Due.index("14 part ahead of 12", () -> x.reel(6, 1, 1));
    }

    private static void open() {
        Sparkline x = new Sparkline();
        Due.index("15 no reel", () -> x.open(0, true));
        x.reel(0, 5, 10);
        x.reel(1, 5, 20);
        for (int reel : new int[] {-1, 2, Integer.MIN_VALUE, Integer.MAX_VALUE}) {
            Due.index("15 reel", () -> x.open(reel, false));
        }
        x.pass(100);
        Due.is("15 opened", 10, () -> x.open(0, false));
        Due.state("15 it is open", () -> x.open(0, false));
        x.pass(4);
        Due.is("16 clock", 6, () -> x.ofReel(0, 2));
        Due.is("15 baked", 10, () -> x.open(0, true));
        Due.is("15 baked unopened", 20, () -> x.open(1, true));
        Due.state("15 it is open then", () -> x.open(1, false));
        x.pass(11);
        Due.is("16 run out", NONE, () -> x.ofReel(0, 2));
        Due.state("15 open, though run out", () -> x.open(0, false));
        Due.is("15 baked when run out", 10, () -> x.open(0, true));
        Due.is("16 the other clock", 9, () -> x.ofReel(1, 2));
    }

    private static void ofReel() {
        Sparkline x = new Sparkline();
        Due.index("16 no reel", () -> x.ofReel(0, 0));
        x.reel(5, 99, 10);
        x.reel(2, 1, 1);
        for (int number : new int[] {-1, 2, Integer.MIN_VALUE, Integer.MAX_VALUE}) {
            Due.index("16 reel", () -> x.ofReel(number, 0));
        }
        for (int what : new int[] {-1, 3, Integer.MIN_VALUE, Integer.MAX_VALUE}) {
            Due.index("16 what", () -> x.ofReel(0, what));
        }
        Due.is("16 part", 5, () -> x.ofReel(0, 0));
        Due.is("16 left", 99, () -> x.ofReel(0, 1));
        Due.is("16 not open", NONE, () -> x.ofReel(0, 2));
        x.open(0, false);
        Due.is("16 all its life", 10, () -> x.ofReel(0, 2));
        x.board();
        x.place(0, 0, 0);
        Due.is("16 one fewer", 98, () -> x.ofReel(0, 1));
        x.pass(10);
        Due.is("16 its last minute", 0, () -> x.ofReel(0, 2));
        x.pass(1);
        Due.is("16 run out", NONE, () -> x.ofReel(0, 2));
        Due.is("16 the other part", 2, () -> x.ofReel(1, 0));
        Due.is("16 the other left", 1, () -> x.ofReel(1, 1));
    }

    private static void board() {
        Sparkline x = new Sparkline();
        for (int number = 0; number < 12; number++) {
            int due = number;
            Due.is("17 number", due, () -> x.board());
        }
        Due.state("17 there are 12", () -> x.board());
    }

    private static void place() {
        Sparkline x = new Sparkline();
        Due.index("18 no board", () -> x.place(0, 0, 0));
        x.board();
        Due.index("18 no reel", () -> x.place(0, 0, 0));
        x.reel(3, 3, 10);
        x.open(0, false);
        x.pass(7);
        for (int number : new int[] {-1, 1, Integer.MIN_VALUE, Integer.MAX_VALUE}) {
            Due.index("18 board", () -> x.place(number, 0, 0));
            Due.index("18 reel", () -> x.place(0, 0, number));
        }
        for (int slot : NO_SLOTS) {
            Due.index("18 slot", () -> x.place(0, slot, 0));
        }
        Due.is("18 left", 2, () -> x.place(0, 7, 0));
        Due.state("18 a part is there", () -> x.place(0, 7, 0));
        Due.is("18 left", 1, () -> x.place(0, 0, 0));
        Due.is("27 reel", 0, () -> x.ofSlot(0, 7, 0));
        Due.is("27 minute", 7, () -> x.ofSlot(0, 7, 1));
        x.solder(0);
        Due.state("18 soldered", () -> x.place(0, 1, 0));
        Due.is("18 refused ones take none", 1, () -> x.ofReel(0, 1));
        Due.is("27 without", NONE, () -> x.ofSlot(0, 1, 0));
        Due.index("18 slot ahead of soldered", () -> x.place(0, 8, 0));
    }

    private static void placeFromReels() {
        Sparkline x = new Sparkline();
        x.board();
        x.reel(0, 1, 2);
        x.reel(1, 5, 2);
        Due.state("18 not open", () -> x.place(0, 0, 0));
        x.open(0, false);
        Due.is("18 the last one", 0, () -> x.place(0, 0, 0));
        Due.state("18 empty", () -> x.place(0, 1, 0));
        x.open(0, true);
        Due.state("18 empty, though baked", () -> x.place(0, 1, 0));
        x.open(1, false);
        x.pass(2);
        Due.is("18 its last minute", 4, () -> x.place(0, 1, 1));
        x.pass(1);
        Due.state("18 run out", () -> x.place(0, 2, 1));
        x.open(1, true);
        Due.is("18 baked", 3, () -> x.place(0, 2, 1));
    }

    private static void limits() {
        Sparkline x = new Sparkline();
        for (int number : new int[] {-1, 6, Integer.MIN_VALUE, Integer.MAX_VALUE}) {
            Due.index("19 part", () -> x.limits(false, number, 0, 0));
            Due.index("19 zone", () -> x.limits(true, number, 0, 0));
            Due.index("19 part ahead of low", () -> x.limits(false, number, -1, 0));
        }
        Due.index("19 zone 4", () -> x.limits(true, 4, 0, 0));
        for (int heat : new int[] {-1, 401, Integer.MIN_VALUE, Integer.MAX_VALUE}) {
            Due.argument("19 low", () -> x.limits(false, 0, heat, 400));
            Due.argument("19 heat", () -> x.limits(true, 0, heat, 400));
            Due.argument("19 high", () -> x.limits(false, 0, 0, heat));
        }
        Due.argument("19 high below low", () -> x.limits(false, 5, 200, 199));
        x.limits(false, 5, 0, 0);
        x.limits(false, 5, 400, 400);
        x.limits(true, 3, 0, Integer.MIN_VALUE);
        x.limits(true, 3, 400, Integer.MAX_VALUE);

        Sparkline y = oneBoard();
        y.reel(1, 9, 5000);
        y.open(1, false);
        y.limits(false, 0, 220, 220);
        y.limits(true, 0, 400, 0);
        y.limits(true, 1, 400, 0);
        y.limits(true, 2, 400, 0);
        y.limits(true, 3, 0, 0);
        y.place(0, 0, 0);
        // 25, 150, 233, 288, 325, 350, 366, 377, 384, 389, 259 ..
        Due.is("19 new heats", 389, () -> y.solder(0));
        Due.is("19 new limits", Sparkline.BURNT, () -> y.jointAnew(0, 0));
        y.limits(false, 0, 389, 389);
        y.board();
        y.place(1, 0, 0);
        y.solder(1);
        Due.is("19 both limits are within", Sparkline.GOOD, () -> y.jointAnew(1, 0));
        y.limits(false, 0, 390, 400);
        y.board();
        y.place(2, 0, 0);
        y.solder(2);
        Due.is("19 cold", Sparkline.COLD, () -> y.jointAnew(2, 0));
        y.limits(false, 0, 388, 388);
        y.board();
        y.place(3, 0, 0);
        y.place(3, 1, 1);
        Due.is("19 more mass", 370, () -> y.solder(3));
        Due.is("19 of one part alone", Sparkline.COLD, () -> y.jointAnew(3, 0));
        Due.is("19 the other part as at first", Sparkline.BURNT, () -> y.jointAnew(3, 1));
    }

    private static void solder() {
        Sparkline x = oneBoard();
        for (int number : new int[] {-1, 1, Integer.MIN_VALUE, Integer.MAX_VALUE}) {
            Due.index("20 board", () -> x.solder(number));
        }
        // Of mass 2: 25, 87, 118, 134, 167, 183, 191, 215, 227, 233, 166 ..
        Due.is("20 without parts", 233, () -> x.solder(0));
        Due.state("20 soldered", () -> x.solder(0));
        Due.is("20 none of the clock", 1, () -> x.pass(1));
        int[] peaks = {220, 204, 188, 173, 162, 150, 141, 133};
        for (int parts = 1; parts <= 8; parts++) {
            int board = x.board();
            for (int slot = 0; slot < parts; slot++) {
                x.place(board, 7 - slot, 0);
            }
            Due.is("20 with " + parts, peaks[parts - 1], () -> x.solder(board));
            int due = parts > 3 ? Sparkline.COLD : Sparkline.GOOD;
            Due.is("28 joint with " + parts, due, () -> x.jointAnew(board, 7));
        }
    }

    private static void solderInColdZones() {
        Sparkline x = oneBoard();
        x.limits(true, 0, 0, 0);
        x.limits(true, 1, 0, 0);
        x.limits(true, 2, 0, 0);
        // 12, 6, 3, 1, 0 .. 0, 50, 75, 87
        Due.is("20 the last zone alone", 87, () -> x.solder(0));
        x.limits(true, 3, 0, 0);
        x.board();
        Due.is("20 rounded down below 0", 12, () -> x.solder(1));
        x.board();
        for (int slot = 0; slot < 8; slot++) {
            x.place(2, slot, 0);
        }
        Due.is("20 and heavy", 22, () -> x.solder(2));
        x.limits(true, 3, 400, 0);
        x.board();
        Due.is("20 the last zone told anew", 350, () -> x.solder(3));
        x.limits(true, 3, 0, 400);
        x.board();
        Due.is("19 an upper limit of a zone does not matter", 12, () -> x.solder(4));
    }

    private static void flaw() {
        Sparkline x = oneBoard();
        x.limits(false, 0, 0, 400);
        x.place(0, 2, 0);
        Due.state("21 not soldered", () -> x.flaw(0, 2));
        x.solder(0);
        for (int number : new int[] {-1, 1, Integer.MIN_VALUE, Integer.MAX_VALUE}) {
            Due.index("21 board", () -> x.flaw(number, 0));
        }
        for (int slot : NO_SLOTS) {
            Due.index("21 slot", () -> x.flaw(0, slot));
        }
        Due.state("21 no part", () -> x.flaw(0, 0));
        x.test(0);
        x.flaw(0, 2);
        Due.is("21 not found yet", Sparkline.GOOD, () -> x.ofSlot(0, 2, 2));
        Due.is("21 found", 1, () -> x.test(0));
        Due.is("21 hidden", Sparkline.HIDDEN, () -> x.ofSlot(0, 2, 2));
        x.flaw(0, 2);
        Due.is("21 anew is not found yet", Sparkline.GOOD, () -> x.ofSlot(0, 2, 2));
        Due.state("24 nothing found", () -> x.repair(0, 2, 0));
        Due.is("25 tested ahead", 1, () -> x.ship(0));
        Due.state("21 shipped", () -> x.flaw(0, 2));

        Sparkline y = coldBoard();
        y.test(0);
        y.flaw(0, 7);
        Due.is("21 in place of a found one", Sparkline.GOOD, () -> y.ofSlot(0, 7, 2));
        Due.is("21 the others stay", Sparkline.COLD, () -> y.ofSlot(0, 5, 2));
        Due.is("28 what the oven did stays", Sparkline.COLD, () -> y.jointAnew(0, 7));
        Due.is("23 all again", 7, () -> y.test(0));
        Due.is("21 found as hidden", Sparkline.HIDDEN, () -> y.ofSlot(0, 7, 2));
    }

    private static void cover() {
        Sparkline x = coldBoard();
        for (int slot : NO_SLOTS) {
            Due.index("22 slot", () -> x.cover(slot, true));
        }
        Due.is("22 all", 8, () -> x.cover(0, true));
        for (int slot = 0; slot < 8; slot++) {
            int asked = slot;
            Due.is("22 fewer", 7 - slot, () -> x.cover(asked, false));
        }
        Due.is("22 none", 0, () -> x.cover(7, false));
        Due.is("23 sees nothing", 0, () -> x.test(0));
        Due.is("22 one", 1, () -> x.cover(7, true));
        Due.is("22 the same", 1, () -> x.cover(7, true));
        Due.is("23 sees one", 1, () -> x.test(0));
        Due.is("27 that", Sparkline.COLD, () -> x.ofSlot(0, 7, 2));
        Due.is("22 another", 2, () -> x.cover(0, true));
    }

    private static void test() {
        Sparkline x = oneBoard();
        Due.state("23 not soldered", () -> x.test(0));
        for (int number : new int[] {-1, 1, Integer.MIN_VALUE, Integer.MAX_VALUE}) {
            Due.index("23 board", () -> x.test(number));
        }
        Sparkline y = coldBoard();
        for (int slot = 3; slot < 8; slot++) {
            y.cover(slot, false);
        }
        Due.is("27 nothing found yet", Sparkline.GOOD, () -> y.ofSlot(0, 0, 2));
        Due.is("23 covered ones", 3, () -> y.test(0));
        Due.is("27 found", Sparkline.COLD, () -> y.ofSlot(0, 0, 2));
        Due.is("27 not covered", Sparkline.GOOD, () -> y.ofSlot(0, 3, 2));
        y.cover(0, false);
        y.cover(1, false);
        y.cover(7, true);
        Due.is("23 those found ahead too", 4, () -> y.test(0));
        Due.is("27 as it was found", Sparkline.COLD, () -> y.ofSlot(0, 0, 2));
        y.board();
        y.solder(1);
        Due.is("23 without parts", 0, () -> y.test(1));
        y.ship(1);
        Due.state("23 shipped", () -> y.test(1));
        Due.is("23 still four", 4, () -> y.test(0));
    }

    private static void repair() {
        Sparkline x = coldBoard();
        x.reel(0, 9, 5000);
        x.open(1, false);
        for (int number : new int[] {-1, 2, Integer.MIN_VALUE, Integer.MAX_VALUE}) {
            Due.index("24 board", () -> x.repair(number, 0, 0));
            Due.index("24 reel", () -> x.repair(0, 0, number));
        }
        for (int slot : NO_SLOTS) {
            Due.index("24 slot", () -> x.repair(0, slot, 0));
        }
        Due.state("24 nothing is found yet", () -> x.repair(0, 0, 1));
        x.test(0);
        Due.state("24 no part, no fault", () -> x.repair(0, 6, 1));
        x.pass(30);
        x.limits(false, 0, 0, 400);
        Due.is("24 six are left", 6, () -> x.repair(0, 0, 1));
        Due.is("16 taken from the reel", 8, () -> x.ofReel(1, 1));
        Due.is("27 reel", 1, () -> x.ofSlot(0, 0, 0));
        Due.is("27 minute", 30, () -> x.ofSlot(0, 0, 1));
        Due.is("27 no fault", Sparkline.GOOD, () -> x.ofSlot(0, 0, 2));
        Due.is("27 repaired", 1, () -> x.ofSlot(0, 0, 3));
        Due.is("27 the next one not", 0, () -> x.ofSlot(0, 1, 3));
        Due.is("28 the joint it was", Sparkline.COLD, () -> x.jointAnew(0, 0));
        Due.state("24 no fault now", () -> x.repair(0, 0, 1));
        Due.is("23 six", 6, () -> x.test(0));
        x.flaw(0, 0);
        Due.is("23 a flaw in the repaired one", 7, () -> x.test(0));
        Due.state("24 repaired once", () -> x.repair(0, 0, 1));
        Due.is("16 none taken", 8, () -> x.ofReel(1, 1));
        Due.is("24 the next one", 6, () -> x.repair(0, 7, 0));
    }

    private static void repairFromReels() {
        Sparkline x = coldBoard();
        x.test(0);
        x.reel(1, 9, 5000);
        x.open(1, false);
        Due.state("24 another part", () -> x.repair(0, 0, 1));
        x.reel(0, 1, 10);
        Due.state("24 not open", () -> x.repair(0, 0, 2));
        x.open(2, false);
        x.pass(11);
        Due.state("24 run out", () -> x.repair(0, 0, 2));
        x.open(2, true);
        x.pass(10);
        Due.is("24 its last minute", 6, () -> x.repair(0, 0, 2));
        Due.state("24 empty", () -> x.repair(0, 1, 2));
        Due.is("27 not repaired", 0, () -> x.ofSlot(0, 1, 3));
        Due.is("27 its reel stays", 0, () -> x.ofSlot(0, 1, 0));
    }

    private static void ship() {
        Sparkline x = oneBoard();
        for (int number : new int[] {-1, 1, Integer.MIN_VALUE, Integer.MAX_VALUE}) {
            Due.index("25 board", () -> x.ship(number));
        }
        Due.state("25 not soldered", () -> x.ship(0));
        x.limits(false, 0, 400, 400);
        x.place(0, 3, 0);
        x.place(0, 4, 0);
        x.solder(0);
        Due.state("25 not tested", () -> x.ship(0));
        x.cover(4, false);
        x.test(0);
        Due.state("25 a fault was found", () -> x.ship(0));
        x.repair(0, 3, 0);
        Due.state("25 not tested since it was repaired", () -> x.ship(0));
        x.test(0);
        x.flaw(0, 3);
        Due.is("25 two were not found", 2, () -> x.ship(0));
        Due.state("25 shipped", () -> x.ship(0));
        x.board();
        x.solder(1);
        x.test(1);
        Due.is("25 no part, no fault", 0, () -> x.ship(1));

        Sparkline y = coldBoard();
        for (int slot = 0; slot < 8; slot++) {
            y.cover(slot, false);
        }
        y.test(0);
        Due.is("25 none was found", 7, () -> y.ship(0));
    }

    private static void pass() {
        Sparkline x = new Sparkline();
        for (int minutes : new int[] {0, -1, 1000, Integer.MIN_VALUE, Integer.MAX_VALUE}) {
            Due.argument("26 minutes", () -> x.pass(minutes));
        }
        Due.is("26 least", 1, () -> x.pass(1));
        for (int times = 1; times <= 10; times++) {
            int due = 1 + 999 * times;
            Due.is("26 most", due, () -> x.pass(999));
        }
        Due.state("26 above 9999", () -> x.pass(9));
        Due.state("26 far above 9999", () -> x.pass(999));
        Due.argument("26 minutes ahead of 9999", () -> x.pass(1000));
        Due.is("26 the last one", 9999, () -> x.pass(8));
        Due.state("26 at the end", () -> x.pass(1));
    }

    private static void ofSlot() {
        Sparkline x = oneBoard();
        for (int number : new int[] {-1, 1, Integer.MIN_VALUE, Integer.MAX_VALUE}) {
            Due.index("27 board", () -> x.ofSlot(number, 0, 0));
        }
        for (int slot : NO_SLOTS) {
            Due.index("27 slot", () -> x.ofSlot(0, slot, 0));
        }
        for (int what : new int[] {-1, 4, Integer.MIN_VALUE, Integer.MAX_VALUE}) {
            Due.index("27 what", () -> x.ofSlot(0, 0, what));
        }
        Due.is("27 no reel", NONE, () -> x.ofSlot(0, 0, 0));
        Due.is("27 no minute", NONE, () -> x.ofSlot(0, 0, 1));
        Due.is("27 no fault", Sparkline.GOOD, () -> x.ofSlot(0, 0, 2));
        Due.is("27 not repaired", 0, () -> x.ofSlot(0, 0, 3));
        x.place(0, 0, 0);
        Due.is("27 reel", 0, () -> x.ofSlot(0, 0, 0));
        Due.is("27 minute 0", 0, () -> x.ofSlot(0, 0, 1));
        x.pass(5);
        Due.is("27 the minute in which it was placed", 0, () -> x.ofSlot(0, 0, 1));
        Due.is("27 the next slot", NONE, () -> x.ofSlot(0, 1, 0));
        x.board();
        Due.is("27 the next board", NONE, () -> x.ofSlot(1, 0, 0));
    }

    private static void jointAnew() {
        Sparkline x = oneBoard();
        for (int number : new int[] {-1, 1, Integer.MIN_VALUE, Integer.MAX_VALUE}) {
            Due.index("28 board", () -> x.jointAnew(number, 0));
        }
        for (int slot : NO_SLOTS) {
            Due.index("28 slot", () -> x.jointAnew(0, slot));
        }
        x.reel(1, 9, 5000);
        x.open(1, false);
        x.reel(2, 9, 5000);
        x.open(2, false);
        // Of mass 5 the peak is 188.
        x.limits(false, 0, 188, 188);
        x.limits(false, 1, 189, 400);
        x.limits(false, 2, 0, 187);
        x.place(0, 0, 0);
        x.place(0, 1, 1);
        x.place(0, 2, 2);
        Due.is("28 not soldered", NONE, () -> x.jointAnew(0, 0));
        Due.is("28 nor a part", NONE, () -> x.jointAnew(0, 3));
        Due.is("20 peak", 188, () -> x.solder(0));
        for (int round = 0; round < 2; round++) {
            Due.is("28 good", Sparkline.GOOD, () -> x.jointAnew(0, 0));
            Due.is("28 cold", Sparkline.COLD, () -> x.jointAnew(0, 1));
            Due.is("28 burnt", Sparkline.BURNT, () -> x.jointAnew(0, 2));
            Due.is("28 no part", NONE, () -> x.jointAnew(0, 3));
            for (int part = 0; part < 3; part++) {
                x.limits(false, part, 0, 0);
            }
            for (int zone = 0; zone < 4; zone++) {
                x.limits(true, zone, 400, 0);
            }
        }
        Due.is("23 faults as they were", 2, () -> x.test(0));
        Due.is("27 cold", Sparkline.COLD, () -> x.ofSlot(0, 1, 2));
        Due.is("27 burnt", Sparkline.BURNT, () -> x.ofSlot(0, 2, 2));
    }

    private static void recall() {
        Sparkline x = new Sparkline();
        Due.index("29 no reel", () -> x.recall(0));
        for (int reel = 0; reel < 3; reel++) {
            x.reel(0, 50, 5000);
            x.open(reel, false);
        }
        for (int reel : new int[] {-1, 3, Integer.MIN_VALUE, Integer.MAX_VALUE}) {
            Due.index("29 reel", () -> x.recall(reel));
        }
        x.limits(false, 0, 0, 400);
        for (int board = 0; board < 3; board++) {
            x.board();
            x.place(board, 3, 0);
            x.place(board, 7, 0);
            x.place(board, 0, board);
            x.solder(board);
            x.test(board);
        }
        Due.is("29 none was shipped", 0, () -> x.recall(0));
        x.ship(1);
        Due.is("29 one, though in two slots", 1, () -> x.recall(0));
        Due.is("29 its other reel", 1, () -> x.recall(1));
        Due.is("29 not its reel", 0, () -> x.recall(2));
        x.flaw(2, 0);
        x.test(2);
        x.repair(2, 0, 1);
        x.test(2);
        x.ship(2);
        Due.is("29 the reel it was repaired from", 2, () -> x.recall(1));
        Due.is("29 not the one ahead", 0, () -> x.recall(2));
        x.ship(0);
        Due.is("29 all", 3, () -> x.recall(0));
    }
}
