/** Promises 16 to 18: allowed, odd, pairs. */
public final class HabitTest {
    public static void main(String[] args) {
        allowed();
        firsts();
        lateHours();
        logZeroCounts();
        pairs();
        Check.finish("HabitTest");
    }

    private static void allowed() {
        DoorReader x = Check.with(Check.SMALL);
        x.card();
        x.card();
        Check.due("outside without a right", 1, x.allowed(0, 0, 7));
        Check.due("hall without a right", 0, x.allowed(0, 1, 7));
        x.right(0, 1, 5, 9, true);
        x.right(0, 1, 7, 8, false);
        x.right(0, 1, 8, 8, true);
        x.right(0, 0, 20, 199, false);
        int[][] want = {{1, 4, 0}, {1, 5, 1}, {1, 6, 1}, {1, 7, 0}, {1, 8, 1}, {1, 9, 1}, {1, 10, 0},
            {0, 19, 1}, {0, 20, 0}, {0, 199, 0}, {2, 7, 0}};
        for (int[] w : want) {
            Check.due("allowed(0, " + w[0] + ", " + w[1] + ")", w[2], x.allowed(0, w[0], w[1]));
        }
        Check.due("the other card", 0, x.allowed(1, 1, 5));
        Check.due("the other card outside", 1, x.allowed(1, 0, 20));
        int[] wrong = {-1, 200, Integer.MIN_VALUE, Integer.MAX_VALUE};
        for (int w : wrong) {
            Check.due("card " + w, -1, x.allowed(w, 0, 0));
            Check.due("room " + w, -1, x.allowed(0, w, 0));
            Check.due("tick " + w, -1, x.allowed(0, 0, w));
        }
        Check.due("card 2", -1, x.allowed(2, 0, 0));
        Check.due("room 3", -1, x.allowed(0, 3, 0));
    }

    private static void firsts() {
        DoorReader x = Check.with("room a 0;room b 0;room c 0;door d a b 0;door e c b 0;door f a c 0;");
        x.card();
        x.card();
        x.pass(0, 0, false, 50);
        x.pass(0, 1, false, 40);
        x.pass(0, 1, true, 60);
        x.pass(1, 2, false, 10);
        x.pass(0, 2, false, 5);
        x.pass(0, 2, true, 6);
        x.sight(1, 1, 11);
        x.pass(1, 1, false, 12);
        int[] want = {1, 0, 1, 1, 0, 1, -1, 1};
        for (int log = 0; log < want.length; log++) {
            Check.due("odd(" + log + ", 0)", want[log], x.odd(log, 0));
        }
        x.right(0, 1, 50, 50, true);
        x.right(0, 2, 5, 59, true);
        int[] may = {1, 0, 0, 0, 1, 1, -1, 0};
        for (int log = 0; log < may.length; log++) {
            Check.due("odd(" + log + ", 1)", may[log], x.odd(log, 1));
        }
        x.gap(0, 0, 0);
        int[] no = {-1, 6, 8, 9, 100, Integer.MIN_VALUE, Integer.MAX_VALUE};
        for (int log : no) {
            for (int what = 0; what < 4; what++) {
                Check.due("odd(" + log + ", " + what + ")", -1, x.odd(log, what));
            }
        }
        Check.due("what 4", -1, x.odd(0, 4));
        Check.due("what -1", -1, x.odd(0, -1));
    }

    private static void lateHours() {
        DoorReader x = Check.with("room a 0;room b 0;room c 0;door d a b 0;door e b a 0;door f b c 0;");
        x.card();
        x.card();
        x.pass(0, 0, false, 20);
        x.pass(0, 1, true, 8);
        x.pass(0, 0, true, 3);
        x.pass(0, 2, false, 1);
        x.pass(0, 0, false, 25 + 12);
        x.pass(1, 0, false, 50 + 24);
        x.pass(0, 0, false, 75 + 12);
        x.pass(0, 0, false, 100 + 8);
        x.pass(0, 0, false, 100 + 13);
        x.pass(0, 0, false, 75);
        x.pass(0, 0, false, 125 + 12);
        x.pass(0, 0, false, 10);
        x.pass(0, 0, true, 199);
        int[] as = {0, 0, -1, -1, 0, 0, 1, 3, 0, 2, 1, 0, -1};
        int[] all = {0, 0, -1, -1, 1, 0, 2, 3, 3, 2, 4, 0, -1};
        for (int log = 0; log < as.length; log++) {
            Check.due("odd(" + log + ", 2)", as[log], x.odd(log, 2));
            Check.due("odd(" + log + ", 3)", all[log], x.odd(log, 3));
        }
    }

    private static void logZeroCounts() {
        DoorReader x = Check.with("room a 0;room b 0;door d a b 0;");
        x.card();
        x.card();
        x.pass(0, 0, false, 7);
        x.pass(0, 0, false, 32);
        x.pass(1, 0, false, 7);
        Check.due("odd(1, 2)", 1, x.odd(1, 2));
        Check.due("odd(1, 3)", 1, x.odd(1, 3));
        Check.due("odd(1, 0)", 0, x.odd(1, 0));
        Check.due("pairs(0, 1, 0, 1)", 1, x.pairs(0, 1, 0, 1));
        Check.due("pairs(0, 1, 0, 0)", 1, x.pairs(0, 1, 0, 0));
        x.pass(1, 0, false, 32);
        x.pass(1, 0, false, 32);
        x.pass(1, 0, false, 60);
        Check.due("earlier hours are not as late", 0, x.odd(5, 2));
        Check.due("like earliest ones of a day count once, 3", 2, x.odd(5, 3));
    }

    private static void pairs() {
        DoorReader x = Check.with("room a 0;room b 0;door d a b 0;door e a b 0;");
        x.card();
        x.card();
        x.card();
        x.pass(0, 0, false, 10);
        x.pass(1, 0, false, 14);
        x.pass(0, 0, false, 24);
        x.pass(1, 0, false, 25);
        x.pass(0, 1, false, 30);
        x.pass(0, 0, true, 55);
        x.pass(1, 0, false, 55);
        x.pass(1, 0, true, 56);
        x.pass(0, 0, false, 75);
        x.pass(1, 0, false, 99);
        x.pass(0, 0, false, 100);
        x.pass(0, 0, false, 101);
        x.pass(1, 0, false, 101);
        x.pass(1, 0, false, 102);
        x.pass(0, 0, false, 150);
        x.pass(1, 0, false, 199);
        int[][] together = {{0, 1}, {1, 2}, {3, 2}, {4, 3}, {23, 3}, {24, 4}};
        for (int[] w : together) {
            Check.due("pairs(0, 1, " + w[0] + ", 0)", w[1], x.pairs(0, 1, w[0], 0));
            Check.due("pairs(1, 0, " + w[0] + ", 0)", w[1], x.pairs(1, 0, w[0], 0));
            Check.due("pairs(1, 0, " + w[0] + ", 1)", 5, x.pairs(1, 0, w[0], 1));
        }
        Check.due("without passes", 0, x.pairs(0, 2, 24, 0));
        Check.due("without passes, any", 0, x.pairs(0, 2, 24, 1));
        int[] wrong = {-1, 3, 10, Integer.MIN_VALUE, Integer.MAX_VALUE};
        for (int w : wrong) {
            Check.due("card " + w, -1, x.pairs(w, 0, 0, 0));
            Check.due("other card " + w, -1, x.pairs(0, w, 0, 1));
            Check.due("what " + w, -1, x.pairs(0, 1, 0, w));
        }
        Check.due("what 2", -1, x.pairs(0, 1, 0, 2));
        Check.due("one card twice", -1, x.pairs(1, 1, 0, 0));
        for (int what = 0; what < 2; what++) {
            Check.due("span -1", -1, x.pairs(0, 1, -1, what));
            Check.due("span 25", -1, x.pairs(0, 1, 25, what));
        }
    }
}
