import java.util.ArrayList;
import java.util.HashMap;
import java.util.List;
import java.util.Map;

/**
 * All that can be seen of an object: by asking, and by going on with it in several ways. What each way does to the
 * object, no other one sees: each has an object of its own behind the same run.
 */
final class Look {
    private static final int WAYS = 21;
    private static final int MOST_CALLS = 512;
    private static final Map<String, List<String>> SEEN = new HashMap<>();

    private final Sparkline x;
    private final List<String> seen = new ArrayList<>();

    private Look(Sparkline x) {
        this.x = x;
    }

    /** All that can be seen behind a run. */
    static List<String> at(String run) {
        return SEEN.computeIfAbsent(run, r -> at(r, ""));
    }

    /** All that can be seen behind a run and one more call, be it refused or not. */
    private static List<String> at(String run, String call) {
        List<String> all = new ArrayList<>();
        for (int way = 0; way < WAYS; way++) {
            Look look = new Look(Told.after(run));
            if (!call.isEmpty()) {
                Told.answer(look.x, call);
            }
            look.by(way);
            if (Told.callsIn(run) + 1 + look.seen.size() > MOST_CALLS) {
                throw new AssertionError("too many calls of one object, by the way " + way + " behind " + run);
            }
            all.addAll(look.seen);
        }
        return all;
    }

    /** A call is refused with an exception, and changes nothing. */
    static void refused(String sentence, String run, String call, String exception) {
        Told.due(sentence, run, call, exception);
        Due.same(sentence + ", and nothing is changed by " + call, "", change(run, call));
    }

    /** A call is answered, and changes nothing. */
    static void asked(String sentence, String run, String call) {
        Due.holds(sentence + " is asked", !Told.isRefused(Told.answer(Told.after(run), call)));
        Due.same(sentence + ", and nothing is changed by " + call, "", change(run, call));
    }

    /** The first thing that a call changed, or an empty text. */
    static String change(String run, String call) {
        List<String> ahead = at(run);
        List<String> behind = at(run, call);
        for (int place = 0; place < ahead.size(); place++) {
            if (place >= behind.size() || !ahead.get(place).equals(behind.get(place))) {
                return ahead.get(place) + " ahead, " + (place < behind.size() ? behind.get(place) : "") + " behind";
            }
        }
        return "";
    }

    private String see(String call) {
        String answer = Told.answer(x, call);
        seen.add(call + " answered " + answer);
        return answer;
    }

    /** What a call that builds something says is its number, or 0 if it builds nothing more. */
    private String number(String call) {
        String answer = see(call);
        return Told.isRefused(answer) ? "0" : answer;
    }

    private void by(int way) {
        switch (way) {
            case 0 -> wires();
            case 1 -> weights();
            case 2 -> mates();
            case 3 -> lays();
            case 4 -> pulls();
            case 5 -> builds();
            case 6 -> crimps();
            case 7 -> reels();
            case 8 -> slots();
            case 9 -> tests();
            case 10 -> ships();
            case 11 -> places();
            case 12 -> repairs();
            case 13 -> flaws();
            case 14 -> covers(1);
            case 15 -> covers(7);
            case 16 -> limits();
            default -> zone(way - 17);
        }
    }

    private void wires() {
        for (int wire = 0; wire < 24; wire++) {
            for (int place = -1; place < 8; place++) {
                see("ofWire " + wire + " " + place);
            }
        }
    }

    private void weights() {
        for (int option = 0; option < 8; option++) {
            see("weight " + (1 << option));
        }
        see("weight 255");
        for (int families = 1; families <= 5; families++) {
            see("least " + families);
            see("leastAnew " + families);
        }
    }

    private void mates() {
        for (int connector = 0; connector < 8; connector++) {
            for (int other = connector + 1; other < 8; other++) {
                see("mates " + connector + " " + other);
            }
        }
    }

    private void lays() {
        for (int cavity = 0; cavity < 8; cavity++) {
            for (int connector = 0; connector < 7; connector++) {
                for (int other = connector + 1; other < 4; other++) {
                    String wire = number("wire " + connector + " " + cavity + " " + other + " " + cavity + " 0");
                    see("ofWire " + wire + " -1");
                    see("ofWire " + wire + " 0");
                }
            }
        }
    }

    private void pulls() {
        for (int wire = 0; wire < 24; wire++) {
            see("pull " + wire);
            see("weight 255");
        }
        lays();
    }

    private void builds() {
        for (int many = 0; many < 17; many++) {
            see("bundle 0 1 1 1");
            see("connector 0 1 0");
            see("order 1 1");
            see("least 2");
            see("reel 0 1 1");
            see("board");
        }
    }

    private void crimps() {
        for (int many = 0; many < 10; many++) {
            for (int what = 0; what < 3; what++) {
                see("crimps " + what);
            }
            see("crimp " + (1000 + many));
        }
    }

    private void reels() {
        for (int time = 0; time < 4; time++) {
            for (int reel = 0; reel < 12; reel++) {
                for (int what = 0; what < 3; what++) {
                    see("ofReel " + reel + " " + what);
                }
                if (time == 0) {
                    see("recall " + reel);
                }
                if (time == 2) {
                    see("open " + reel + " false");
                }
            }
            see("pass " + (time == 2 ? 999 : 1));
        }
    }

    private void slots() {
        for (int board = 0; board < 2; board++) {
            for (int slot = 0; slot < 8; slot++) {
                for (int what = 0; what < 4; what++) {
                    see("ofSlot " + board + " " + slot + " " + what);
                }
                see("jointAnew " + board + " " + slot);
            }
        }
    }

    private void tests() {
        for (int board = 0; board < 3; board++) {
            see("solder " + board);
            see("test " + board);
        }
        slots();
    }

    private void ships() {
        for (int board = 0; board < 3; board++) {
            see("ship " + board);
            see("flaw " + board + " 0");
            see("test " + board);
            see("ship " + board);
        }
        for (int reel = 0; reel < 12; reel++) {
            see("recall " + reel);
        }
        slots();
    }

    private void places() {
        for (int slot = 0; slot < 8; slot++) {
            for (int reel = 0; reel < 4; reel++) {
                see("place 0 " + slot + " " + reel);
            }
        }
        slots();
        reels();
    }

    private void repairs() {
        for (int slot = 0; slot < 8; slot++) {
            see("cover " + slot + " true");
        }
        for (int board = 0; board < 2; board++) {
            see("test " + board);
            for (int slot = 0; slot < 8; slot++) {
                see("repair " + board + " " + slot + " 0");
                see("repair " + board + " " + slot + " 1");
            }
            see("test " + board);
            see("ship " + board);
        }
        slots();
    }

    private void flaws() {
        for (int slot = 0; slot < 8; slot++) {
            see("flaw 0 " + slot);
        }
        repairs();
    }

    /** The first slot that is taken off hides itself: begun at two slots, each one is seen. */
    private void covers(int first) {
        for (int slot = first; slot < first + 8; slot++) {
            see("cover " + slot % 8 + " false");
        }
    }

    /** The limits of each part, by three boards that come to be too cold, right, and too hot for them at first. */
    private void limits() {
        String[] boards = {number("board"), number("board"), number("board")};
        for (int part = 0; part < 6; part++) {
            String reel = number("reel " + part + " 9 5000");
            see("open " + reel + " true");
            for (String board : boards) {
                see("place " + board + " " + part + " " + reel);
            }
        }
        int[] heats = {150, 260, 400};
        for (int round = 0; round < heats.length; round++) {
            for (int zone = 0; zone < 4; zone++) {
                see("limits true " + zone + " " + heats[round] + " 0");
            }
            see("solder " + boards[round]);
            for (int part = 0; part < 6; part++) {
                see("jointAnew " + boards[round] + " " + part);
            }
        }
    }

    /** The heat of one zone: the others are cold. */
    private void zone(int seenZone) {
        for (int zone = 0; zone < 4; zone++) {
            if (zone != seenZone) {
                see("limits true " + zone + " 0 0");
            }
        }
        see("solder " + number("board"));
    }
}
