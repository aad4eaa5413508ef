/** Promises 11 to 15, sentence by sentence: rooms, way, broken, many, inside. */
final class EdgesOfWays {
    private static final int MIN = Integer.MIN_VALUE;
    private static final int MAX = Integer.MAX_VALUE;
    private static final int[] NO_TICKS = {-1, 200, MIN, MAX};
    private static final String LINE = "room a 0;room b 0;door d a b 0;";
    private static final String CHAIN = "room a 0;room b 0;room c 0;door d a b 0;door e b c 0;";

    private EdgesOfWays() {
    }

    static void run() {
        rooms();
        bits();
        noWay();
        roomsRefused();
        firstWay();
        firstByPassOrFree();
        firstInOrder();
        wayOfAllLogs();
        wayThrough();
        noSuchWay();
        wayThrows();
        broken();
        many();
        manyOfThem();
        inside();
        insideOfThem();
    }

    /** Room a with a door to each of seven others. */
    private static String star() {
        StringBuilder text = new StringBuilder(Edge.rooms(8));
        for (int i = 1; i < 8; i++) {
            text.append("door ").append((char) ('l' + i)).append(" a ").append((char) ('a' + i)).append(" 0;");
        }
        return text.toString();
    }

    private static void rooms() {
        Edge.of(11, "The ROOMS in which a CARD CAN be in a TICK as known behind n LOGS,");
        DoorReader x = Edge.reader(CHAIN, 10);
        x.gap(0, 10, 20);
        x.pass(9, 0, false, 12);
        x.gap(1, 30, 30);
        x.sight(9, 2, 40);
        x.sight(0, 0, 15);
        int[][] of9 = {{1, 3, 2, 2, 2, 2}, {1, 3, 3, 3, 2, 2}, {1, 3, 3, 7, 4, 4}};
        int[][] of0 = {{1, 3, 3, 3, 3, 3}, {1, 3, 3, 3, 3, 3}, {1, 3, 3, 7, 7, 7}};
        int[] ticks = {12, 25, 35};
        for (int round = 0; round < 2; round++) {
            for (int i = 0; i < 18; i++) {
                int n = round == 0 ? i % 6 : 5 - i % 6;
                int t = ticks[i / 6];
                Edge.due("rooms(9, " + t + ", " + n + ")", of9[i / 6][n], x.rooms(9, t, n));
                Edge.due("rooms(0, " + t + ", " + n + ")", of0[i / 6][n], x.rooms(0, t, n));
            }
        }
        Edge.due("rooms(0, 15, 5)", 1, x.rooms(0, 15, 5));
        Edge.due("rooms(0, 15, 4)", 3, x.rooms(0, 15, 4));
    }

    private static void bits() {
        Edge.of(11, "as bits (of value 1 for ROOM 0, 2 for ROOM 1 ..);");
        DoorReader x = Edge.reader(star(), 8);
        for (int room = 1; room < 8; room++) {
            x.pass(room, room - 1, false, 10);
        }
        for (int room = 0; room < 8; room++) {
            Edge.due("the one in ROOM " + room, 1 << room, x.rooms(room, 10, 7));
        }
        for (int d = 0; d < 7; d++) {
            x.gap(d, 50, 50);
            Edge.due("behind " + (d + 1) + " gaps", (4 << d) - 1, x.rooms(0, 50, 8 + d));
        }
    }

    private static void noWay() {
        Edge.of(11, "0 if there is no WAY.");
        String[] whose = {"broken", "seen where it can't be", "seen where it is"};
        for (int card = 0; card < 3; card++) {
            DoorReader x = Edge.reader(LINE, 3);
            x.pass(0, 0, true, 100);
            x.sight(1, 1, 199);
            x.sight(2, 0, 0);
            for (int t = 0; t < 200; t++) {
                Edge.due(whose[card] + ", in " + t, card / 2, x.rooms(card, t, 3));
            }
            Edge.due("ahead of all logs", 1, x.rooms(card, 199, 0));
        }
    }

    private static void roomsRefused() {
        Edge.of(11, "NONE: no such CARD, TICK, n.");
        DoorReader x = Check.with(LINE);
        Edge.due("no cards", -1, x.rooms(0, 0, 0));
        x.card();
        x.card();
        x.gap(0, 0, 199);
        for (int no : new int[] {-1, 2, 9, 10, 11, MIN, MAX}) {
            Edge.due("card " + no, -1, x.rooms(no, 0, 0));
            Edge.due("card " + no + ", behind all", -1, x.rooms(no, 0, 1));
            Edge.due("n " + no, -1, x.rooms(0, 0, no));
        }
        for (int t : NO_TICKS) {
            Edge.due("tick " + t, -1, x.rooms(0, t, 1));
            Edge.due("tick " + t, -1, x.rooms(1, t, 0));
        }
        Edge.due("card 1, tick 199, n 1", 3, x.rooms(1, 199, 1));
        Edge.due("card 0, tick 0, n 0", 1, x.rooms(0, 0, 0));
        for (int i = 1; i < 100; i++) {
            x.sight(0, 0, 0);
        }
        Edge.due("n 100 of 100", 1, x.rooms(0, 0, 100));
        Edge.due("n 101 of 100", -1, x.rooms(0, 0, 101));
    }

    private static void firstWay() {
        Edge.of(12, "The ROOM in TICK u of the first WAY "
                + "(of all, compared TICK by TICK from 0 on, the lesser ROOM first)");
        DoorReader x = Edge.reader(LINE, 1);
        x.gap(0, 10, 12);
        Edge.walks(x, 20, 1, 9, "00011");
        Edge.walks(x, 20, 0, 9, "00000");
        Edge.walks(x, 20, 1, 0, "0");
        Edge.walks(x, 20, 1, 199, "1");
        DoorReader y = Edge.reader(LINE, 1);
        y.pass(0, 0, false, 5);
        y.gap(0, 10, 20);
        Edge.walks(y, 30, 0, 4, "01111100");
        Edge.walks(y, 30, 1, 8, "11000000000011");
        DoorReader z = Edge.reader("room a 0;room b 0;room c 0;room z 0;"
                + "door d a c 0;door e a b 0;door f c z 0;door g b z 0;", 1);
        z.gap(0, 10, 10);
        z.gap(1, 10, 10);
        z.gap(2, 15, 15);
        z.gap(3, 15, 15);
        Edge.walks(z, 20, 3, 9, "01111133");
        Edge.walks(z, 12, 2, 9, "02222222");
        z.gap(0, 11, 11);
        Edge.walks(z, 20, 3, 9, "00222233");
        DoorReader w = Edge.reader("room a 4;room b 4;door d a b 0;", 1);
        w.pass(0, 0, false, 0);
        w.gap(0, 1, 5);
        Edge.walks(w, 0, 1, 0, "1111100000");
        Edge.walks(w, 199, 1, 0, "1111111111");
    }

    /** The least room may be come to by a pass or freely; the later ticks tell which it must have been. */
    private static void firstByPassOrFree() {
        DoorReader x = Edge.reader("room a 0;room b 0;door d a b 0;door e a b 2;", 1);
        x.gap(0, 10, 11);
        x.pass(0, 1, false, 11);
        x.sight(0, 1, 10);
        x.sight(0, 0, 11);
        x.sight(0, 1, 12);
        Edge.walks(x, 100, 1, 9, "01011");
        DoorReader y = Edge.reader("room a 0;room b 0;door d a b 0;door e a b 2;", 1);
        y.gap(0, 10, 11);
        y.pass(0, 1, false, 12);
        y.sight(0, 1, 10);
        y.sight(0, 1, 14);
        Edge.walks(y, 100, 1, 9, "0100011");
        Edge.walks(y, 11, 1, 9, "0111111");
    }

    /** A later pass is not gone by ahead of an earlier one, though that would be a lesser way; twelve of them. */
    private static void firstInOrder() {
        DoorReader x = Edge.reader("room a 0;room b 0;room c 0;door d a b 0;door e b c 5;door f b a 5;door g c b 0;", 1);
        x.pass(0, 0, false, 10);
        x.pass(0, 1, false, 30);
        x.pass(0, 2, false, 33);
        x.gap(3, 36, 36);
        Edge.walks(x, 199, 0, 9, "01111111111111111111111111210");
        DoorReader y = Edge.reader("room a 0;room b 0;door d a b 1;", 1);
        for (int i = 0; i < 12; i++) {
            y.pass(0, 0, i % 2 == 1, 10 * i);
        }
        Edge.walks(y, 199, 0, 0, "0111111110000000000001");
        Edge.walks(y, 199, 0, 107, "11000");
        y.gap(0, 150, 150);
        Edge.walks(y, 199, 1, 107, "11000");
        Edge.walks(y, 199, 1, 149, "0011");
        DoorReader z = Edge.reader("room a 0;room b 0;door d b a 0;", 1);
        z.gap(0, 0, 0);
        for (int i = 0; i < 12; i++) {
            z.pass(0, 0, i % 2 == 1, 10 + 10 * i);
        }
        Edge.walks(z, 199, 1, 119, "011");
        z.gap(0, 150, 150);
        Edge.walks(z, 199, 0, 149, "100");
    }

    private static void wayOfAllLogs() {
        Edge.of(12, "of a CARD as known behind all LOGS");
        DoorReader x = Edge.reader(LINE, 2);
        Edge.due("behind no logs", 0, Check.way(x, 0, 20, 0, 20));
        Edge.due("behind no logs, in b", -1, Check.way(x, 0, 20, 1, 20));
        x.gap(0, 10, 12);
        Edge.due("behind the gap", 1, Check.way(x, 0, 20, 1, 12));
        Edge.due("behind the gap, in 11", 0, Check.way(x, 0, 20, 1, 11));
        x.sight(0, 1, 11);
        Edge.due("behind the sight, in 11", 1, Check.way(x, 0, 20, 1, 11));
        Edge.due("the other card, in 11", 0, Check.way(x, 1, 20, 1, 11));
        x.pass(1, 0, false, 30);
        Edge.due("the other card behind its pass", -1, Check.way(x, 1, 20, 1, 11));
        Edge.due("the first card still", 1, Check.way(x, 0, 20, 1, 11));
        x.pass(0, 0, false, 40);
        Edge.due("the first card behind its pass", -1, Check.way(x, 0, 20, 1, 11));
        Edge.due("the first card behind its pass, outside", 0, Check.way(x, 0, 20, 0, 12));
    }

    private static void wayThrough() {
        Edge.of(12, "that has it in a ROOM in TICK t.");
        for (int card = 0; card < 3; card++) {
            DoorReader x = null;
            for (int t = 0; t < 200; t++) {
                if (t % 50 == 0) {
                    x = EdgesOfTexts.lively();
                    x.gap(0, 90, 92);
                    x.gap(1, 0, 199);
                }
                int can = x.rooms(card, t, x.count(3));
                for (int room = 0; room < 3; room++) {
                    boolean there = (can >> room & 1) == 1;
                    Edge.due("way(" + card + ", " + t + ", " + room + ", " + t + ")", there ? room : -1,
                            Check.way(x, card, t, room, t));
                }
            }
        }
        DoorReader y = Edge.reader(LINE, 1);
        y.gap(0, 0, 199);
        Edge.walks(y, 0, 1, 0, "100");
        Edge.walks(y, 1, 1, 0, "010");
        Edge.walks(y, 0, 1, 0, "100");
        Edge.walks(y, 199, 1, 197, "001");
        Edge.walks(y, 198, 1, 197, "010");
        Edge.walks(y, 0, 1, 0, "100");
        DoorReader z = Edge.reader(LINE, 1);
        z.gap(0, 5, 9);
        Edge.walks(z, 20, 1, 8, "01");
        Edge.due("in b in TICK 0, asked behind another TICK", -1, Check.way(z, 0, 0, 1, 9));
    }

    private static void noSuchWay() {
        Edge.of(12, "NONE: there is none such.");
        DoorReader x = Edge.reader(CHAIN, 3);
        x.gap(0, 10, 10);
        x.sight(1, 2, 50);
        x.pass(2, 1, false, 50);
        int[] some = {0, 1, 9, 10, 11, 198, 199};
        for (int u : some) {
            Edge.due("in c, u " + u, -1, Check.way(x, 0, 100, 2, u));
            Edge.due("in b too soon, u " + u, -1, Check.way(x, 0, 9, 1, u));
            Edge.due("in b in TICK 0, u " + u, -1, Check.way(x, 0, 0, 1, u));
            for (int room = 0; room < 3; room++) {
                Edge.due("seen where it can't be, room " + room + ", u " + u, -1, Check.way(x, 1, u, room, u));
                Edge.due("broken or not, room " + room + ", u " + u,
                        room == 0 && u < 10 ? 0 : room == 1 && u >= 10 && u < 50 ? 1 : room == 2 && u >= 50 ? 2 : -1,
                        Check.way(x, 2, u, room, u));
            }
        }
        x.pass(2, 1, false, 60);
        for (int room = 0; room < 3; room++) {
            Edge.due("broken, room " + room, -1, Check.way(x, 2, 0, room, 0));
        }
        DoorReader y = Edge.reader(star(), 1);
        for (int room = 1; room < 8; room++) {
            Edge.due("none of eight rooms but OUTSIDE, room " + room, -1, Check.way(y, 0, 199, room, 0));
        }
        y.gap(6, 0, 0);
        Edge.due("the last of eight rooms", 7, Check.way(y, 0, 199, 7, 0));
        y.sight(0, 6, 100);
        Edge.due("no way in eight rooms", -1, Check.way(y, 0, 199, 7, 0));
    }

    private static void wayThrows() {
        Edge.of(12, "NoSuchElementException: no such CARD, TICK t, ROOM, TICK u.");
        DoorReader x = new DoorReader();
        Edge.due("no building", -9, Check.way(x, 0, 0, 0, 0));
        Check.build(x, LINE);
        Edge.due("no cards", -9, Check.way(x, 0, 0, 0, 0));
        x.card();
        x.card();
        for (int no : new int[] {-1, 2, 7, 8, 9, 10, MIN, MAX}) {
            Edge.due("card " + no, -9, Check.way(x, no, 0, 0, 0));
            Edge.due("room " + no, -9, Check.way(x, 0, 0, no, 0));
        }
        for (int t : NO_TICKS) {
            Edge.due("t " + t, -9, Check.way(x, 0, t, 0, 0));
            Edge.due("u " + t, -9, Check.way(x, 0, 0, 0, t));
            Edge.due("u " + t + ", no such way", -9, Check.way(x, 0, 0, 1, t));
        }
        Edge.due("card 1, t 199, room 0, u 199", 0, Check.way(x, 1, 199, 0, 199));
        Edge.due("card 0, t 0, room 0, u 0", 0, Check.way(x, 0, 0, 0, 0));
        Edge.due("room 1, none such", -1, Check.way(x, 0, 0, 1, 0));
        x.sight(0, 1, 0);
        Edge.due("no way at all, u 199", -1, Check.way(x, 0, 0, 0, 199));
        Edge.due("no way at all, u 200", -9, Check.way(x, 0, 0, 0, 200));
        Check.build(x, LINE);
        Edge.due("a new building without cards", -9, Check.way(x, 0, 0, 0, 0));
    }

    private static void broken() {
        Edge.of(13, "The LOG at which a CARD IS BROKEN as known behind n LOGS;");
        DoorReader x = Edge.reader(CHAIN, 2);
        x.pass(0, 1, false, 60);
        x.pass(0, 1, false, 50);
        x.gap(0, 30, 30);
        x.gap(1, 55, 55);
        x.pass(1, 0, true, 0);
        int[] of0 = {-1, 0, 1, 0, -1, -1};
        int[] of1 = {-1, -1, -1, -1, -1, 4};
        for (int n = 0; n <= 5; n++) {
            Edge.due("broken(0, " + n + ")", of0[n], x.broken(0, n));
            Edge.due("broken(1, " + n + ")", of1[n], x.broken(1, n));
        }
        for (int n = 5; n >= 0; n--) {
            Edge.due("broken(0, " + n + ") again", of0[n], x.broken(0, n));
        }

        Edge.of(13, "NONE if it isn't, or for no such CARD, n.");
        DoorReader y = Edge.reader(CHAIN, 2);
        Edge.due("without passes", -1, y.broken(0, 0));
        y.pass(0, 0, true, 0);
        y.pass(1, 0, true, 0);
        Edge.due("broken", 0, y.broken(0, 2));
        Edge.due("broken at 1", 1, y.broken(1, 2));
        for (int no : new int[] {-1, 3, 9, 10, 100, 101, MIN, MAX}) {
            Edge.due("card " + no, -1, y.broken(no, 2));
            Edge.due("n " + no, -1, y.broken(0, no));
        }
        Edge.due("card 2", -1, y.broken(2, 2));
        Edge.due("n 1 of the second card", -1, y.broken(1, 1));
        y.sight(0, 2, 0);
        y.gap(0, 0, 0);
        Edge.due("still broken", 0, y.broken(0, 4));
        Edge.due("no building", -1, new DoorReader().broken(0, 0));
    }

    /** Card 0 stays outside, 1 is in the hall from 8 to 12 on, 2 goes on to the lab in 13, 3 is broken. */
    private static DoorReader four() {
        DoorReader x = Edge.reader(Check.SMALL, 4);
        x.pass(1, 0, false, 10);
        x.pass(2, 0, false, 10);
        x.pass(2, 1, false, 13);
        x.pass(3, 1, false, 10);
        return x;
    }

    private static void many() {
        Edge.of(14, "How many CARDS are in a ROOM in a TICK as known behind n LOGS, of those that have a WAY:");
        DoorReader x = four();
        int[] outside = {4, 3, 2, 2, 1};
        for (int n = 0; n <= 4; n++) {
            Edge.due("many(0, 12, " + n + ", 0)", outside[n], x.many(0, 12, n, 0));
            Edge.due("many(0, 12, " + n + ", 1)", outside[n], x.many(0, 12, n, 1));
        }
        for (int room = 0; room < 3; room++) {
            Edge.due("ahead of all, room " + room, room == 0 ? 3 : 0, x.many(room, 0, 4, 0));
        }
        x.sight(0, 2, 0);
        Edge.due("one more without a way", 0, x.many(0, 12, 5, 1));
        Edge.due("nor is it where it was seen", 0, x.many(2, 0, 5, 1));
        Edge.due("no cards", 0, Check.with(LINE).many(0, 0, 0, 1));
        DoorReader ten = Edge.reader(LINE, 10);
        Edge.due("ten cards", 10, ten.many(0, 199, 0, 0));
        Edge.due("ten cards, none of them in b", 0, ten.many(1, 199, 0, 1));
    }

    private static void manyOfThem() {
        DoorReader x = four();
        Edge.of(14, "what 0 at least (that CAN be in no other one),");
        int[][] least = {{0, 7, 3}, {0, 8, 1}, {0, 10, 1}, {1, 8, 0}, {1, 10, 0}, {1, 11, 1}, {1, 12, 2}, {1, 13, 1},
            {2, 12, 0}, {2, 13, 1}, {2, 199, 1}, {0, 199, 1}};
        for (int[] m : least) {
            Edge.due("many(" + m[0] + ", " + m[1] + ", 4, 0)", m[2], x.many(m[0], m[1], 4, 0));
        }
        Edge.of(14, "1 at most (that CAN be there).");
        int[][] most = {{0, 7, 3}, {0, 8, 3}, {0, 10, 3}, {0, 11, 2}, {0, 12, 1}, {1, 7, 0}, {1, 8, 2}, {1, 12, 2},
            {1, 13, 1}, {2, 12, 0}, {2, 13, 1}};
        for (int[] m : most) {
            Edge.due("many(" + m[0] + ", " + m[1] + ", 4, 1)", m[2], x.many(m[0], m[1], 4, 1));
        }
        Edge.of(14, "NONE: no such ROOM, TICK, n, what.");
        for (int what = 0; what < 2; what++) {
            for (int no : new int[] {-1, 5, 8, 100, 101, MIN, MAX}) {
                Edge.due("room " + no, -1, x.many(no, 0, 4, what));
                Edge.due("n " + no, -1, x.many(0, 0, no, what));
            }
            Edge.due("room 3", -1, x.many(3, 0, 4, what));
            for (int t : NO_TICKS) {
                Edge.due("tick " + t, -1, x.many(0, t, 4, what));
            }
        }
        for (int what : new int[] {-1, 2, 3, MIN, MAX}) {
            Edge.due("what " + what, -1, x.many(0, 0, 4, what));
        }
        Edge.due("no building", -1, new DoorReader().many(0, 0, 0, 0));
        Edge.due("room 2, tick 199, n 4", 1, x.many(2, 199, 4, 1));
    }

    private static void inside() {
        DoorReader x = four();
        Edge.of(15, "How many CARDS are not OUTSIDE likewise:");
        int[] at = {0, 1, 2, 2, 2};
        for (int n = 0; n <= 4; n++) {
            Edge.due("inside(12, " + n + ", 0)", at[n], x.inside(12, n, 0));
            Edge.due("inside(12, " + n + ", 1)", at[n], x.inside(12, n, 1));
        }
        DoorReader y = Edge.reader(LINE, 2);
        y.gap(0, 0, 199);
        y.sight(0, 1, 5);
        Edge.due("seen inside", 1, y.inside(5, 2, 0));
        y.sight(0, 0, 5);
        Edge.due("at least, without a way", 0, y.inside(5, 3, 0));
        Edge.due("at most, without a way", 1, y.inside(5, 3, 1));
        Edge.due("bits, without a way", 2, y.inside(5, 3, 2));
        Edge.due("no cards", 0, Check.with(LINE).inside(0, 0, 1));
    }

    private static void insideOfThem() {
        DoorReader x = four();
        Edge.of(15, "what 0 at least (that CAN be OUTSIDE not),");
        int[][] least = {{7, 0}, {8, 0}, {10, 0}, {11, 1}, {12, 2}, {13, 2}, {199, 2}};
        for (int[] m : least) {
            Edge.due("inside(" + m[0] + ", 4, 0)", m[1], x.inside(m[0], 4, 0));
        }
        Edge.of(15, "1 at most (that CAN be in another ROOM),");
        int[][] most = {{0, 0}, {7, 0}, {8, 2}, {11, 2}, {12, 2}, {199, 2}};
        for (int[] m : most) {
            Edge.due("inside(" + m[0] + ", 4, 1)", m[1], x.inside(m[0], 4, 1));
        }
        Edge.of(15, "2 those of 1 as bits (of value 1 for CARD 0, 2 for CARD 1 ..).");
        int[][] bits = {{0, 0}, {7, 0}, {8, 6}, {12, 6}, {199, 6}};
        for (int[] m : bits) {
            Edge.due("inside(" + m[0] + ", 4, 2)", m[1], x.inside(m[0], 4, 2));
        }
        DoorReader ten = Edge.reader(LINE, 10);
        for (int card = 0; card < 10; card++) {
            ten.pass(card, 0, false, 10 + card);
        }
        for (int card = 0; card < 10; card++) {
            Edge.due("inside(" + (10 + card) + ", 10, 2)", (2 << card) - 1, ten.inside(10 + card, 10, 2));
            Edge.due("inside(" + (10 + card) + ", 10, 1)", card + 1, ten.inside(10 + card, 10, 1));
            Edge.due("inside(199, " + card + ", 2)", (1 << card) - 1, ten.inside(199, card, 2));
        }
        Edge.of(15, "NONE: no such TICK, n, what.");
        for (int what = 0; what < 3; what++) {
            for (int t : NO_TICKS) {
                Edge.due("tick " + t, -1, x.inside(t, 4, what));
            }
            for (int n : new int[] {-1, 5, 100, 101, MIN, MAX}) {
                Edge.due("n " + n, -1, x.inside(0, n, what));
            }
            Edge.due("no building, n 0", 0, new DoorReader().inside(199, 0, what));
            Edge.due("no building, n 1", -1, new DoorReader().inside(0, 1, what));
            Edge.due("no building, tick 200", -1, new DoorReader().inside(200, 0, what));
        }
        for (int what : new int[] {-1, 3, 4, MIN, MAX}) {
            Edge.due("what " + what, -1, x.inside(0, 4, what));
        }
    }
}
