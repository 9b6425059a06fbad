import java.util.function.LongSupplier;

/** Long runs of calls, each answered by Sparkline and by PlainModel: both must say the same. */
public final class ModelTest {
    private static final int RUNS = 1500;
    /** Some count twice: no object is asked more than 512 times. */
    private static final int CALLS = 460;
    private static final int[] WILD = {-2, -1, 0, 1, 7, 8, 12, 16, 24, 99, 100, 256, 400, 401, 999, 1000, 5000, 5001,
        9999, 10000, 2147483647, -2147483648};
    /** Which calls a run makes, some more often: those of the harness, crimps, boards, or all. */
    private static final int[][] KINDS = {
        {0, 0, 1, 2, 3, 3, 3, 3, 3, 4, 5, 5, 5, 6, 7, 8, 9},
        {10, 10, 11},
        {12, 13, 14, 15, 16, 16, 16, 16, 16, 16, 17, 18, 20, 20, 21, 22, 22, 23, 23, 23, 23, 24, 25, 26, 26, 27},
        {12, 13, 15, 16, 16, 16, 16, 16, 16, 16, 16, 18, 20, 22, 23, 23, 23, 23, 23, 23, 24, 26, 27},
        {0, 1, 2, 3, 4, 5, 6, 7, 8, 9, 10, 11, 12, 13, 14, 15, 16, 17, 18, 19, 20, 21, 22, 23, 24, 25, 26, 27}};

    private long seed;
    private final Sparkline x = new Sparkline();
    private final PlainModel model = new PlainModel();
    /** How often one of a hundred arguments is wild. */
    private final int wildness;
    /** How many of a thing a call of this run names: few, for things to happen to the same one. */
    private final int spread;
    private int bundles = 0;
    private int connectors = 0;
    private int wires = 0;
    private int reels = 0;
    private int boards = 0;

    private ModelTest(int run) {
        seed = run * 7919L + 17;
        wildness = run % 3 == 0 ? 10 : 1;
        spread = 1 + run % 12;
    }

    public static void main(String[] args) {
        for (int run = 0; run < RUNS; run++) {
            int[] kind = KINDS[run % KINDS.length];
            ModelTest test = new ModelTest(run);
            for (int call = 0; call < CALLS; call++) {
                test.call("run " + run + ", call " + call + ": ", kind[test.below(kind.length)]);
            }
        }
        Due.end();
    }

    private int below(int bound) {
        seed = seed * 6364136223846793005L + 1442695040888963407L;
        return (int) Math.floorMod(seed >>> 33, (long) bound);
    }

    private int from(int low, int high) {
        return below(100) < wildness ? WILD[below(WILD.length)] : low + below(high - low + 1);
    }

    private int of(int many) {
        return from(0, Math.max(0, Math.min(many, spread) - 1));
    }

    private boolean flip() {
        return below(2) == 0;
    }

    private void call(String where, int which) {
        if (which < 10) {
            harness(where, which);
        } else if (which < 15) {
            crimpsAndReels(where, which);
        } else if (which < 20) {
            buildBoards(where, which);
        } else {
            useBoards(where, which);
        }
    }

    /** Whether both answered a number. */
    private boolean both(String call, LongSupplier due, LongSupplier got) {
        String want = answer(due);
        Due.same(call, want, answer(got));
        return !want.endsWith("Exception");
    }

    private static String answer(LongSupplier call) {
        try {
            return Long.toString(call.getAsLong());
        } catch (RuntimeException e) {
            return e.getClass().getSimpleName();
        }
    }

    private static String told(String where, String name, int... args) {
        return where + name + java.util.Arrays.toString(args);
    }

    private void harness(String where, int which) {
        int a = from(0, 7);
        int b = from(0, 7);
        int c = of(connectors);
        int d = of(connectors);
        switch (which) {
            case 0 -> {
                int length = from(1, flip() ? 4 : 999);
                int room = from(1, flip() ? 3 : 24);
                bundles += both(told(where, "bundle", a, b, length, room), () -> model.bundle(a, b, length, room),
                    () -> x.bundle(a, b, length, room)) ? 1 : 0;
            }
            case 1 -> {
                int cavities = from(flip() ? 6 : 1, 8);
                int key = from(0, flip() ? 1 : 9);
                connectors += both(told(where, "connector", a, cavities, key), () -> model.connector(a, cavities, key),
                    () -> x.connector(a, cavities, key)) ? 1 : 0;
            }
            case 2 -> both(told(where, "mates", c, d), () -> model.mates(c, d), () -> x.mates(c, d));
            case 3 -> {
                int option = from(0, 7);
                wires += both(told(where, "wire", c, a, d, b, option), () -> model.wire(c, a, d, b, option),
                    () -> x.wire(c, a, d, b, option)) ? 1 : 0;
            }
            case 4 -> {
                int w = from(0, 23);
                both(told(where, "pull", w), () -> model.pull(w), () -> x.pull(w));
            }
            default -> askHarness(where, which);
        }
    }

    private void askHarness(String where, int which) {
        int w = from(0, Math.max(0, wires - 1));
        int place = from(-1, 7);
        int options = from(0, 255);
        int many = from(1, 99);
        int families = from(1, 5);
        switch (which) {
            case 5 -> both(told(where, "ofWire", w, place), () -> model.ofWire(w, place), () -> x.ofWire(w, place));
            case 6 -> both(told(where, "weight", options), () -> model.weight(options), () -> x.weight(options));
            case 7 -> {
                if (below(5) == 0) {
                    both(told(where, "order", options, many), () -> model.order(options, many),
                        () -> x.order(options, many));
                }
            }
            case 8 -> both(told(where, "least", families), () -> model.least(families), () -> x.least(families));
            default -> both(told(where, "leastAnew", families), () -> model.least(families),
                () -> x.leastAnew(families));
        }
    }

    private void crimpsAndReels(String where, int which) {
        int r = of(reels);
        boolean isBaked = flip();
        int what = from(0, 2);
        int middle = Math.max(1, model.crimps(2));
        int force = below(10) == 0 ? from(1, 9999) : middle + from(0, middle / 4 + 3) - middle / 8;
        switch (which) {
            case 10 -> both(told(where, "crimp", force), () -> model.crimp(force) ? 1 : 0,
                () -> x.crimp(force) ? 1 : 0);
            case 11 -> both(told(where, "crimps", what), () -> model.crimps(what), () -> x.crimps(what));
            case 12 -> {
                int part = from(0, flip() ? 1 : 5);
                int many = from(1, flip() ? 6 : 99);
                int life = from(1, flip() ? 100 : 5000);
                reels += both(told(where, "reel", part, many, life), () -> model.reel(part, many, life),
                    () -> x.reel(part, many, life)) ? 1 : 0;
            }
            case 13 -> both(told(where, "open " + isBaked, r), () -> model.open(r, isBaked), () -> x.open(r, isBaked));
            default -> both(told(where, "ofReel", r, what), () -> model.ofReel(r, what), () -> x.ofReel(r, what));
        }
    }

    private void buildBoards(String where, int which) {
        int b = of(boards);
        int slot = from(0, 7);
        int r = of(reels);
        boolean isZone = flip();
        int number = from(0, isZone ? 3 : 5);
        int low = from(isZone ? 150 : 80, 260);
        int high = from(Math.max(0, Math.min(low, 400)), 400);
        switch (which) {
            case 15 -> boards += both(where + "board", () -> model.board(), () -> x.board()) ? 1 : 0;
            case 16, 19 -> both(told(where, "place", b, slot, r), () -> model.place(b, slot, r),
                () -> x.place(b, slot, r));
            case 17 -> both(told(where, "limits " + isZone, number, low, high),
                () -> model.limits(isZone, number, low, high), () -> {
                    x.limits(isZone, number, low, high);
                    return 0;
                });
            default -> both(told(where, "solder", b), () -> model.solder(b), () -> x.solder(b));
        }
    }

    private void useBoards(String where, int which) {
        int b = of(boards);
        int slot = from(0, 7);
        int r = of(reels);
        int what = from(0, 3);
        boolean isCovered = below(3) > 0;
        int minutes = from(1, flip() ? 20 : 120);
        switch (which) {
            case 20 -> both(told(where, "flaw", b, slot), () -> model.flaw(b, slot), () -> {
                x.flaw(b, slot);
                return 0;
            });
            case 21 -> both(told(where, "cover " + isCovered, slot), () -> model.cover(slot, isCovered),
                () -> x.cover(slot, isCovered));
            case 22 -> both(told(where, "test", b), () -> model.test(b), () -> x.test(b));
            case 23 -> both(told(where, "repair", b, slot, r), () -> model.repair(b, slot, r),
                () -> x.repair(b, slot, r));
            case 24 -> both(told(where, "ship", b), () -> model.ship(b), () -> x.ship(b));
            case 25 -> both(told(where, "pass", minutes), () -> model.pass(minutes), () -> x.pass(minutes));
            case 26 -> {
                both(told(where, "ofSlot", b, slot, what), () -> model.ofSlot(b, slot, what),
                    () -> x.ofSlot(b, slot, what));
                both(told(where, "jointAnew", b, slot), () -> model.jointAnew(b, slot), () -> x.jointAnew(b, slot));
            }
            default -> both(told(where, "recall", r), () -> model.recall(r), () -> x.recall(r));
        }
    }
}
