/** Promises 6 to 10 and 19 to 22: card, pass, gap, sight, right, log, door, wide, count. */
public final class LogTest {
    private static final int[] NO_TICKS = {-1, 200, Integer.MIN_VALUE, Integer.MAX_VALUE};

    public static void main(String[] args) {
        cards();
        passes();
        gaps();
        sights();
        rights();
        fullLogs();
        readings();
        Check.finish("LogTest");
    }

    private static void cards() {
        DoorReader x = new DoorReader();
        Check.due("card without a building", -1, x.card());
        Check.build(x, Check.SMALL);
        for (int i = 0; i < 10; i++) {
            Check.due("card " + i, i, x.card());
            Check.due("cards", i + 1, x.count(2));
        }
        Check.due("an 11th card", -1, x.card());
        Check.due("cards", 10, x.count(2));
    }

    private static void passes() {
        DoorReader x = Check.with(Check.SMALL);
        Check.due("pass without a card", -1, x.pass(0, 0, false, 0));
        x.card();
        x.card();
        Check.due("pass of card -1", -1, x.pass(-1, 0, false, 0));
        Check.due("pass of card 2", -1, x.pass(2, 0, false, 0));
        Check.due("pass by door -1", -1, x.pass(0, -1, false, 0));
        Check.due("pass by door 2", -1, x.pass(0, 2, false, 0));
        for (int tick : NO_TICKS) {
            Check.due("pass in tick " + tick, -1, x.pass(0, 0, false, tick));
        }
        Check.due("no logs by now", 0, x.count(3));
        for (int i = 0; i < 12; i++) {
            Check.due("pass " + i, i, x.pass(1, i % 2, i % 3 == 0, i % 2 == 0 ? 199 : 0));
        }
        Check.due("a 13th pass", -1, x.pass(1, 0, false, 5));
        Check.due("12 logs", 12, x.count(3));
        Check.due("a pass of the other card", 12, x.pass(0, 0, false, 5));
        Check.due("a sight of the full card", 13, x.sight(1, 0, 5));
    }

    private static void gaps() {
        DoorReader x = Check.with(Check.SMALL);
        Check.due("gap of door -1", -1, x.gap(-1, 0, 0));
        Check.due("gap of door 2", -1, x.gap(2, 0, 0));
        for (int tick : NO_TICKS) {
            Check.due("gap from " + tick, -1, x.gap(0, tick, 199));
            Check.due("gap to " + tick, -1, x.gap(0, 0, tick));
        }
        Check.due("gap that ends ahead", -1, x.gap(0, 8, 7));
        Check.due("gap without a card", 0, x.gap(0, 7, 7));
        Check.due("gap over all", 1, x.gap(1, 0, 199));
    }

    private static void sights() {
        DoorReader x = Check.with(Check.SMALL);
        Check.due("sight without a card", -1, x.sight(0, 0, 0));
        x.card();
        Check.due("sight of card 1", -1, x.sight(1, 0, 0));
        Check.due("sight of card -1", -1, x.sight(-1, 0, 0));
        Check.due("sight in room -1", -1, x.sight(0, -1, 0));
        Check.due("sight in room 3", -1, x.sight(0, 3, 0));
        for (int tick : NO_TICKS) {
            Check.due("sight in tick " + tick, -1, x.sight(0, 0, tick));
        }
        Check.due("sight in tick 0", 0, x.sight(0, 2, 0));
        Check.due("sight in tick 199", 1, x.sight(0, 0, 199));
    }

    private static void rights() {
        DoorReader x = Check.with(Check.SMALL);
        Check.due("right without a card", -1, x.right(0, 0, 0, 0, true));
        x.card();
        Check.due("right of card 1", -1, x.right(1, 0, 0, 0, true));
        Check.due("right of card -1", -1, x.right(-1, 0, 0, 0, true));
        Check.due("right for room -1", -1, x.right(0, -1, 0, 0, true));
        Check.due("right for room 3", -1, x.right(0, 3, 0, 0, true));
        for (int tick : NO_TICKS) {
            Check.due("right from " + tick, -1, x.right(0, 0, tick, 199, true));
            Check.due("right to " + tick, -1, x.right(0, 0, 0, tick, true));
        }
        Check.due("right that ends ahead", -1, x.right(0, 0, 1, 0, true));
        Check.due("no rights by now", 0, x.count(4));
        for (int i = 0; i < 100; i++) {
            Check.due("right " + i, i, x.right(0, i % 3, i, 199, i % 2 == 0));
        }
        Check.due("a 101st right", -1, x.right(0, 0, 0, 0, true));
        Check.due("100 rights", 100, x.count(4));
        Check.due("rights are no logs", 0, x.count(3));
        Check.due("a log beside 100 rights", 0, x.sight(0, 0, 0));
    }

    private static void fullLogs() {
        DoorReader x = Check.with(Check.SMALL);
        x.card();
        for (int i = 0; i < 100; i++) {
            int got = i % 3 == 0 && i < 30 ? x.pass(0, 0, false, i) : i % 3 == 1 ? x.gap(1, i, i) : x.sight(0, 0, i);
            Check.due("log " + i, i, got);
        }
        Check.due("a 101st log, a pass", -1, x.pass(0, 0, false, 0));
        Check.due("a 101st log, a gap", -1, x.gap(0, 0, 0));
        Check.due("a 101st log, a sight", -1, x.sight(0, 0, 0));
        Check.due("100 logs", 100, x.count(3));
        Check.due("known behind 100", 0, x.rooms(0, 0, 100));
        Check.due("known behind 101", -1, x.rooms(0, 0, 101));
        Check.due("a right beside 100 logs", 0, x.right(0, 0, 0, 0, true));
    }

    private static void readings() {
        DoorReader x = Check.with(Check.SMALL);
        x.card();
        x.card();
        x.pass(1, 1, true, 17);
        x.pass(0, 0, false, 3);
        x.gap(1, 5, 9);
        x.sight(1, 2, 8);
        int[][] want = {{0, 1, 1, 17, 1}, {0, 0, 0, 3, 0}, {1, -1, 1, 5, 9}, {2, 1, 2, 8, -1}};
        for (int k = 0; k < 4; k++) {
            for (int what = 0; what < 5; what++) {
                Check.due("log(" + k + ", " + what + ")", want[k][what], x.log(k, what));
            }
            Check.due("log(" + k + ", 5)", -1, x.log(k, 5));
            Check.due("log(" + k + ", -1)", -1, x.log(k, -1));
        }
        Check.due("log(4, 0)", -1, x.log(4, 0));
        Check.due("log(-1, 0)", -1, x.log(-1, 0));
        Check.due("log(100, 0)", -1, x.log(100, 0));
        Check.due("log(max, 0)", -1, x.log(Integer.MAX_VALUE, 0));

        int[][] doors = {{0, 1, 2}, {1, 2, 0}};
        for (int d = 0; d < 2; d++) {
            for (int what = 0; what < 3; what++) {
                Check.due("door(" + d + ", " + what + ")", doors[d][what], x.door(d, what));
            }
            Check.due("door(" + d + ", 3)", -1, x.door(d, 3));
            Check.due("door(" + d + ", -1)", -1, x.door(d, -1));
        }
        Check.due("door(2, 0)", -1, x.door(2, 0));
        Check.due("door(-1, 0)", -1, x.door(-1, 0));

        int[] widths = {0, 1, 0};
        for (int room = 0; room < 3; room++) {
            Check.due("wide(" + room + ")", widths[room], x.wide(room));
        }
        Check.due("wide(-1)", -1, x.wide(-1));
        Check.due("wide(3)", -1, x.wide(3));

        x.right(0, 1, 0, 5, true);
        x.feed(0, 0, 0, 0, 0);
        int[] counts = {3, 2, 2, 4, 1, 20};
        for (int what = 0; what < 6; what++) {
            Check.due("count(" + what + ")", counts[what], x.count(what));
        }
        Check.due("count(6)", -1, x.count(6));
        Check.due("count(-1)", -1, x.count(-1));
    }
}
