/** Promises 16 to 18, sentence by sentence: allowed, odd, pairs. */
final class EdgesOfHabits {
    private static final int MIN = Integer.MIN_VALUE;
    private static final int MAX = Integer.MAX_VALUE;
    private static final int[] NO_TICKS = {-1, 200, MIN, MAX};
    private static final String LINE = "room a 0;room b 0;door d a b 0;";
    private static final String RING = "room a 0;room b 0;room c 0;door d a b 0;door e c b 0;door f a c 0;";

    private EdgesOfHabits() {
    }

    static void run() {
        allowed();
        oddByLogsAhead();
        firstInto();
        allowedThere();
        fromOutside();
        asLate();
        howMany();
        oddRefused();
        pairsAsTold();
        pairsNear();
        pairsAny();
        pairsRefused();
    }

    private static void allowed() {
        Edge.of(16, "Whether a CARD is allowed in a ROOM in a TICK: 1, 0;");
        DoorReader x = Edge.reader(Check.SMALL, 10);
        Edge.due("OUTSIDE without a right", 1, x.allowed(9, 0, 199));
        Edge.due("the lab without a right", 0, x.allowed(9, 2, 199));
        x.right(9, 2, 0, 199, true);
        x.right(9, 0, 100, 150, false);
        Edge.due("the lab, given", 1, x.allowed(9, 2, 0));
        Edge.due("the lab, given to the end", 1, x.allowed(9, 2, 199));
        Edge.due("the hall, not given", 0, x.allowed(9, 1, 0));
        Edge.due("the lab, another card", 0, x.allowed(0, 2, 0));
        int[][] outside = {{99, 1}, {100, 0}, {150, 0}, {151, 1}};
        for (int[] w : outside) {
            Edge.due("OUTSIDE, taken, in " + w[0], w[1], x.allowed(9, 0, w[0]));
            Edge.due("OUTSIDE, another card, in " + w[0], 1, x.allowed(8, 0, w[0]));
        }
        Edge.of(16, "NONE: no such ones.");
        DoorReader y = Edge.reader(Check.SMALL, 2);
        y.right(0, 0, 0, 199, true);
        for (int no : new int[] {-1, 3, 8, 10, 200, MIN, MAX}) {
            Edge.due("card " + no, -1, y.allowed(no, 0, 0));
            Edge.due("room " + no, -1, y.allowed(0, no, 0));
        }
        Edge.due("card 2", -1, y.allowed(2, 0, 0));
        for (int t : NO_TICKS) {
            Edge.due("tick " + t, -1, y.allowed(0, 0, t));
        }
        Edge.due("no building", -1, new DoorReader().allowed(0, 0, 0));
        Edge.due("no cards", -1, Check.with(LINE).allowed(0, 0, 0));
    }

    private static void oddByLogsAhead() {
        Edge.of(17, "Of a PASS (its LOG), by the LOGS ahead of it alone, TICKS as told:");
        DoorReader x = Edge.reader("room a 0;room b 0;door d a b 6;", 1);
        x.pass(0, 0, false, 100);
        Edge.due("the first alone, 0", 1, x.odd(0, 0));
        Edge.due("the first alone, 3", 0, x.odd(0, 3));
        x.pass(0, 0, false, 10);
        x.pass(0, 0, false, 60);
        Edge.due("logs behind it, of ticks ahead, 0", 1, x.odd(0, 0));
        Edge.due("logs behind it, of ticks ahead, 2", 0, x.odd(0, 2));
        Edge.due("logs behind it, of ticks ahead, 3", 0, x.odd(0, 3));
        Edge.due("a log ahead, of a tick behind, 0", 0, x.odd(1, 0));
        Edge.due("a log ahead, of a tick behind, 3", 0, x.odd(1, 3));
        Edge.due("one of two logs ahead, 3", 1, x.odd(2, 3));
        DoorReader y = Edge.reader("room a 0;room b 0;door d a b 6;", 1);
        y.pass(0, 0, false, 24);
        y.pass(0, 0, false, 25);
        Edge.due("as told, whatever the clock errs by, 3", 1, y.odd(1, 3));
        Edge.due("as told, whatever the clock errs by, 2", 1, y.odd(1, 2));
    }

    private static void firstInto() {
        Edge.of(17, "what 0 whether it is the CARD's FIRST into that ROOM (1, 0);");
        DoorReader x = Edge.reader(RING, 2);
        x.pass(0, 0, false, 50);
        x.pass(0, 1, false, 40);
        x.pass(0, 1, true, 60);
        x.pass(1, 2, false, 10);
        x.pass(0, 2, false, 5);
        x.pass(0, 2, true, 6);
        x.sight(1, 1, 11);
        x.gap(0, 0, 199);
        x.pass(1, 1, false, 12);
        x.pass(0, 0, true, 70);
        x.pass(0, 0, false, 50);
        int[] want = {1, 0, 1, 1, 0, 1, -1, -1, 1, 0, 0};
        for (int log = 0; log < want.length; log++) {
            Edge.due("odd(" + log + ", 0)", want[log], x.odd(log, 0));
        }
    }

    private static void allowedThere() {
        Edge.of(17, "1 whether its CARD is allowed there in that TICK (by all RIGHTS);");
        DoorReader x = Edge.reader(RING, 2);
        x.pass(0, 0, false, 50);
        x.pass(0, 0, true, 60);
        x.pass(1, 0, false, 50);
        x.pass(0, 1, true, 50);
        x.pass(0, 0, false, 51);
        int[] none = {0, 1, 0, 0, 0};
        for (int log = 0; log < 5; log++) {
            Edge.due("without rights, odd(" + log + ", 1)", none[log], x.odd(log, 1));
        }
        x.right(0, 1, 50, 50, true);
        int[] given = {1, 1, 0, 0, 0};
        for (int log = 0; log < 5; log++) {
            Edge.due("with a right told later, odd(" + log + ", 1)", given[log], x.odd(log, 1));
        }
        x.right(0, 0, 60, 60, false);
        x.right(1, 1, 0, 199, true);
        x.right(0, 2, 0, 199, true);
        int[] more = {1, 0, 1, 1, 0};
        for (int log = 0; log < 5; log++) {
            Edge.due("with more rights, odd(" + log + ", 1)", more[log], x.odd(log, 1));
        }
        x.right(0, 1, 0, 199, false);
        Edge.due("taken again, odd(0, 1)", 0, x.odd(0, 1));
    }

    private static void fromOutside() {
        Edge.of(17, "2 and 3, if it is from OUTSIDE: of the CARD's PASSES from OUTSIDE on DAYS ahead of its own "
                + "the earliest ones of each DAY:");
        DoorReader x = Edge.reader("room a 0;room b 0;room c 0;door d a b 0;door e b a 0;door f b c 0;", 2);
        x.pass(0, 0, false, 20);
        x.pass(0, 1, true, 8);
        x.pass(0, 0, true, 3);
        x.pass(0, 2, false, 1);
        x.pass(0, 0, false, 25 + 12);
        x.pass(1, 0, false, 50 + 24);
        x.pass(0, 0, false, 75 + 12);
        x.pass(0, 0, false, 100 + 8);
        x.pass(0, 0, false, 100 + 13);
        x.pass(0, 0, false, 75);
        x.pass(0, 0, false, 125 + 12);
        x.pass(0, 1, false, 150);
        x.pass(0, 0, false, 10);
        x.sight(0, 0, 0);
        x.pass(0, 0, true, 199);
        int[] late = {0, 0, -1, -1, 0, 0, 1, 3, 0, 2, 1, -1, 0, -1, -1};
        int[] all = {0, 0, -1, -1, 1, 0, 2, 3, 3, 2, 4, -1, 0, -1, -1};
        for (int log = 0; log < late.length; log++) {
            Edge.due("odd(" + log + ", 2)", late[log], x.odd(log, 2));
            Edge.due("odd(" + log + ", 3)", all[log], x.odd(log, 3));
        }
        DoorReader y = Edge.reader(LINE, 1);
        y.pass(0, 0, false, 0);
        y.pass(0, 0, false, 24);
        y.pass(0, 0, false, 25);
        Edge.due("the same DAY is none ahead", 0, y.odd(1, 3));
        Edge.due("the next DAY's first TICK", 1, y.odd(2, 3));
    }

    private static void asLate() {
        Edge.of(17, "2 how many of these have an HOUR as late as its own or later,");
        for (int hour = 0; hour < 25; hour++) {
            DoorReader x = Edge.reader(LINE, 1);
            x.pass(0, 0, false, 11);
            x.pass(0, 0, false, 25 + 12);
            x.pass(0, 0, false, 50 + 13);
            x.pass(0, 0, false, 50 + 20);
            x.pass(0, 0, false, 75);
            x.pass(0, 0, false, 100 + 24);
            x.pass(0, 0, false, 175 + hour);
            int due = (hour <= 11 ? 1 : 0) + (hour <= 12 ? 1 : 0) + (hour <= 13 ? 1 : 0) + (hour == 0 ? 1 : 0) + 1;
            Edge.due("odd 2 of HOUR " + hour, due, x.odd(6, 2));
        }
    }

    private static void howMany() {
        Edge.of(17, "3 how many there are.");
        DoorReader x = Edge.reader(LINE, 1);
        for (int day = 0; day < 8; day++) {
            x.pass(0, 0, false, 25 * day + (7 * day) % 25);
            Edge.due("odd 3 of DAY " + day, day, x.odd(day, 3));
        }
        x.pass(0, 0, false, 198);
        Edge.due("of DAY 7 again", 7, x.odd(8, 3));
        x.pass(0, 0, false, 30);
        Edge.due("of DAY 1, told last", 1, x.odd(9, 3));
    }

    private static void oddRefused() {
        Edge.of(17, "NONE: no such PASS, what; 2, 3 of others.");
        DoorReader x = Edge.reader(RING, 1);
        x.pass(0, 0, false, 10);
        x.gap(0, 0, 0);
        x.sight(0, 0, 0);
        x.pass(0, 0, true, 20);
        x.pass(0, 1, true, 30);
        x.pass(0, 2, true, 40);
        for (int what = -1; what <= 4; what++) {
            for (int log : new int[] {-1, 1, 2, 6, 7, 99, 100, MIN, MAX}) {
                Edge.due("odd(" + log + ", " + what + ")", -1, x.odd(log, what));
            }
        }
        for (int what : new int[] {-1, 4, 5, MIN, MAX}) {
            Edge.due("odd(0, " + what + ")", -1, x.odd(0, what));
            Edge.due("odd(3, " + what + ")", -1, x.odd(3, what));
        }
        for (int what = 2; what <= 3; what++) {
            Edge.due("odd(0, " + what + ") from OUTSIDE", 0, x.odd(0, what));
            Edge.due("odd(3, " + what + ") into OUTSIDE", -1, x.odd(3, what));
            Edge.due("odd(4, " + what + ") of neither", -1, x.odd(4, what));
            Edge.due("odd(5, " + what + ") into OUTSIDE", -1, x.odd(5, what));
        }
        Edge.due("no building", -1, new DoorReader().odd(0, 0));
    }

    private static DoorReader two() {
        DoorReader x = Edge.reader("room a 0;room b 0;door d a b 6;door e a b 6;", 3);
        x.pass(0, 0, false, 10);
        x.pass(1, 0, false, 14);
        x.pass(0, 0, false, 24);
        x.pass(1, 0, false, 25);
        x.pass(0, 1, false, 30);
        x.pass(0, 0, true, 55);
        x.pass(1, 0, false, 55);
        x.pass(1, 0, true, 56);
        x.pass(0, 0, false, 75);
        x.pass(1, 0, false, 99);
        x.pass(0, 0, false, 100);
        x.pass(0, 0, false, 101);
        x.pass(1, 0, false, 101);
        x.pass(1, 0, false, 102);
        x.pass(0, 0, false, 150);
        x.pass(1, 0, false, 199);
        return x;
    }

    private static void pairsAsTold() {
        Edge.of(18, "Of two CARDS, PASSES as told:");
        DoorReader x = Edge.reader("room a 0;room b 0;door d a b 6;", 3);
        x.pass(0, 0, false, 10);
        x.pass(1, 0, false, 11);
        x.pass(2, 0, true, 11);
        Edge.due("clocks say nothing", 0, x.pairs(0, 1, 0, 0));
        Edge.due("one apart", 1, x.pairs(0, 1, 1, 0));
        Edge.due("one apart, the other way round", 1, x.pairs(1, 0, 1, 0));
        Edge.due("broken or not", 1, x.pairs(1, 2, 0, 1));
        x.sight(0, 1, 60);
        x.sight(1, 1, 60);
        x.gap(0, 60, 60);
        Edge.due("sights and gaps say nothing", 1, x.pairs(0, 1, 24, 1));
        x.pass(0, 0, false, 199);
        x.pass(1, 0, false, 199);
        Edge.due("the last tick too", 2, x.pairs(0, 1, 1, 0));
    }

    private static void pairsNear() {
        Edge.of(18, "what 0 on how many DAYS both have a PASS through one DOOR, the same way, "
                + "no more than so many TICKS (0 to 24) apart, both on that DAY;");
        DoorReader x = two();
        for (int span = 0; span <= 24; span++) {
            int due = 1 + (span >= 1 ? 1 : 0) + (span >= 4 ? 1 : 0) + (span >= 24 ? 1 : 0);
            Edge.due("pairs(0, 1, " + span + ", 0)", due, x.pairs(0, 1, span, 0));
            Edge.due("pairs(1, 0, " + span + ", 0)", due, x.pairs(1, 0, span, 0));
            Edge.due("pairs(0, 2, " + span + ", 0)", 0, x.pairs(0, 2, span, 0));
        }
        DoorReader all = Edge.reader(LINE, 2);
        for (int day = 0; day < 8; day++) {
            all.pass(0, 0, false, 25 * day);
            all.pass(1, 0, false, 25 * day + 24);
        }
        Edge.due("8 DAYS, 24 apart", 8, all.pairs(0, 1, 24, 0));
        Edge.due("8 DAYS, 23 apart or less", 0, all.pairs(0, 1, 23, 0));
        DoorReader other = Edge.reader("room a 0;room b 0;door d a b 0;door e a b 0;door f b a 0;", 2);
        other.pass(0, 0, false, 5);
        other.pass(1, 1, false, 5);
        other.pass(1, 0, true, 5);
        other.pass(1, 2, true, 5);
        Edge.due("another door, another way", 0, other.pairs(0, 1, 24, 0));
        other.pass(1, 0, false, 6);
        other.pass(0, 0, false, 7);
        Edge.due("a day counts once", 1, other.pairs(0, 1, 24, 0));
        other.pass(0, 0, true, 30);
        other.pass(1, 0, true, 30);
        Edge.due("both back", 1, other.pairs(0, 1, 0, 0));
    }

    private static void pairsAny() {
        Edge.of(18, "1 on how many both have any.");
        DoorReader x = two();
        for (int span = 0; span <= 24; span++) {
            Edge.due("pairs(0, 1, " + span + ", 1)", 5, x.pairs(0, 1, span, 1));
            Edge.due("pairs(2, 1, " + span + ", 1)", 0, x.pairs(2, 1, span, 1));
        }
        x.pass(2, 1, true, 60);
        x.pass(2, 1, true, 61);
        x.pass(2, 1, true, 125);
        x.pass(2, 1, true, 199);
        Edge.due("pairs(0, 2, 0, 1)", 1, x.pairs(0, 2, 0, 1));
        Edge.due("pairs(2, 1, 0, 1)", 2, x.pairs(2, 1, 0, 1));
    }

    private static void pairsRefused() {
        Edge.of(18, "NONE: no such two CARDS, span, what.");
        DoorReader x = two();
        for (int what = 0; what < 2; what++) {
            for (int no : new int[] {-1, 3, 10, MIN, MAX}) {
                Edge.due("card " + no + " and 0", -1, x.pairs(no, 0, 0, what));
                Edge.due("card 0 and " + no, -1, x.pairs(0, no, 0, what));
            }
            for (int card = 0; card < 3; card++) {
                Edge.due("one card twice", -1, x.pairs(card, card, 0, what));
            }
            for (int span : new int[] {-1, 25, 26, 200, MIN, MAX}) {
                Edge.due("span " + span + ", what " + what, -1, x.pairs(0, 1, span, what));
            }
        }
        for (int what : new int[] {-1, 2, 3, MIN, MAX}) {
            Edge.due("what " + what, -1, x.pairs(0, 1, 0, what));
        }
        Edge.due("no building", -1, new DoorReader().pairs(0, 1, 0, 0));
        Edge.due("one card alone", -1, Edge.reader(LINE, 1).pairs(0, 1, 0, 0));
    }
}
