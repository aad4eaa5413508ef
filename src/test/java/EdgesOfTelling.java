/** Promises 6 to 10 and 19 to 22, sentence by sentence: what is told, and reading it again. */
final class EdgesOfTelling {
    private static final int[] NO_TICKS = {-1, 200, Integer.MIN_VALUE, Integer.MAX_VALUE};
    private static final int MIN = Integer.MIN_VALUE;
    private static final int MAX = Integer.MAX_VALUE;

    private EdgesOfTelling() {
    }

    static void run() {
        card();
        pass();
        gap();
        sight();
        right();
        log();
        door();
        wide();
        count();
    }

    private static void card() {
        Edge.of(6, "A CARD: its number.");
        DoorReader x = Check.with(Check.SMALL);
        for (int i = 0; i < 10; i++) {
            Edge.due("card()", i, x.card());
            Edge.due("count(2)", i + 1, x.count(2));
        }
        Check.build(x, Check.SMALL);
        Edge.due("card() of another building", 0, x.card());

        Edge.of(6, "NONE: no BUILDING, ten are there.");
        DoorReader y = new DoorReader();
        Edge.due("card() of a new object", -1, y.card());
        Check.feed(y, Check.SMALL);
        Edge.due("card() ahead of building()", -1, y.card());
        y.end(20);
        y.building();
        Edge.due("card() behind a fault", -1, y.card());
        Check.build(y, Check.SMALL);
        for (int i = 0; i < 10; i++) {
            Edge.due("card()", i, y.card());
        }
        Edge.due("an 11th", -1, y.card());
        Edge.due("a 12th", -1, y.card());
        Edge.due("count(2)", 10, y.count(2));
    }

    private static void pass() {
        Edge.of(7, "A PASS: its LOG's number.");
        DoorReader x = Edge.reader(Check.SMALL, 2);
        Edge.due("the first log", 0, x.pass(1, 1, true, 199));
        x.gap(0, 0, 0);
        x.sight(0, 0, 0);
        x.right(0, 0, 0, 0, true);
        Edge.due("the fourth log", 3, x.pass(0, 0, false, 0));
        Edge.due("the fifth log, told like the fourth", 4, x.pass(0, 0, false, 0));
        Edge.due("count(3)", 5, x.count(3));

        Edge.of(7, "NONE: no such CARD, DOOR, TICK, twelve of this CARD or 100 LOGS are there.");
        DoorReader y = Check.with(Check.SMALL);
        Edge.due("no card yet", -1, y.pass(0, 0, false, 0));
        y.card();
        y.card();
        String was = Edge.all(y);
        for (int no : new int[] {-1, 2, 9, 10, 100, MIN, MAX}) {
            Edge.due("card " + no, -1, y.pass(no, 0, false, 0));
            Edge.due("door " + no, -1, y.pass(0, no, false, 0));
        }
        for (int t : NO_TICKS) {
            Edge.due("tick " + t, -1, y.pass(0, 0, true, t));
        }
        Edge.same("refused passes", was, Edge.all(y));
        tooManyPasses();
        DoorReader z = Edge.reader(Edge.rooms(2), 1);
        Edge.due("a building without doors", -1, z.pass(0, 0, false, 0));
        DoorReader w = Edge.reader(Edge.rooms(2) + Edge.doors(10), 10);
        Edge.due("door 9 of ten", 0, w.pass(9, 9, false, 0));
        Edge.due("door 10 of ten", -1, w.pass(9, 10, false, 0));
    }

    private static void tooManyPasses() {
        DoorReader y = Edge.reader(Check.SMALL, 2);
        for (int i = 0; i < 12; i++) {
            Edge.due("pass " + (i + 1) + " of a card", 3 * i, y.pass(0, 0, i % 2 == 1, 10 * i));
            y.gap(1, i, i);
            y.sight(0, 0, 199);
        }
        String was = Edge.all(y);
        Edge.due("a 13th of this card", -1, y.pass(0, 0, false, 150));
        Edge.same("a refused 13th pass", was, Edge.all(y));
        Edge.due("a pass of the other card", 36, y.pass(1, 0, false, 150));
        for (int i = 37; i < 99; i++) {
            y.gap(1, 0, 0);
        }
        Edge.due("the 100th log", 99, y.pass(1, 1, false, 160));
        was = Edge.all(y);
        Edge.due("a 101st log", -1, y.pass(1, 0, true, 170));
        Edge.same("a refused 101st log", was, Edge.all(y));
    }

    private static void gap() {
        Edge.of(8, "A GAP: its LOG's number.");
        DoorReader x = Check.with(Check.SMALL);
        Edge.due("a gap without cards", 0, x.gap(0, 0, 199));
        x.card();
        x.sight(0, 0, 0);
        x.right(0, 0, 0, 0, true);
        Edge.due("the third log", 2, x.gap(1, 199, 199));
        Edge.due("the fourth log, told like the third", 3, x.gap(1, 199, 199));
        Edge.due("count(3)", 4, x.count(3));

        Edge.of(8, "NONE: no such DOOR, TICKS, from behind to, 100 LOGS are there.");
        DoorReader y = Edge.reader(Check.SMALL, 1);
        String was = Edge.all(y);
        for (int no : new int[] {-1, 2, 9, 10, 100, MIN, MAX}) {
            Edge.due("door " + no, -1, y.gap(no, 5, 6));
        }
        for (int t : NO_TICKS) {
            Edge.due("from " + t, -1, y.gap(0, t, 199));
            Edge.due("to " + t, -1, y.gap(0, 0, t));
            Edge.due("from and to " + t, -1, y.gap(0, t, t));
        }
        for (int t = 1; t < 200; t++) {
            Edge.due("from " + t + " to " + (t - 1), -1, y.gap(0, t, t - 1));
        }
        Edge.due("from 199 to 0", -1, y.gap(0, 199, 0));
        Edge.same("refused gaps", was, Edge.all(y));
        DoorReader z = Edge.reader(Check.SMALL, 1);
        for (int i = 0; i < 100; i++) {
            Edge.due("log " + i, i, z.gap(0, i, i));
        }
        was = Edge.all(z);
        Edge.due("a 101st log", -1, z.gap(1, 0, 199));
        Edge.same("a refused 101st log", was, Edge.all(z));
        Edge.due("no building", -1, new DoorReader().gap(0, 0, 0));
        Edge.due("a building without doors", -1, Check.with(Edge.rooms(2)).gap(0, 0, 0));
    }

    private static void sight() {
        Edge.of(9, "A SIGHT: its LOG's number.");
        DoorReader x = Edge.reader(Check.SMALL, 2);
        Edge.due("the first log", 0, x.sight(1, 2, 199));
        x.gap(0, 0, 0);
        x.right(0, 0, 0, 0, true);
        x.pass(0, 0, false, 0);
        Edge.due("the fourth log", 3, x.sight(0, 0, 0));
        Edge.due("the fifth log, told like the fourth", 4, x.sight(0, 0, 0));
        Edge.due("count(3)", 5, x.count(3));

        Edge.of(9, "NONE: no such CARD, ROOM, TICK, 100 LOGS are there.");
        DoorReader y = Check.with(Check.SMALL);
        Edge.due("no card yet", -1, y.sight(0, 0, 0));
        y.card();
        y.gap(0, 0, 199);
        String was = Edge.all(y);
        for (int no : new int[] {-1, 3, 8, 10, 100, MIN, MAX}) {
            Edge.due("card " + no, -1, y.sight(no, 0, 0));
            Edge.due("room " + no, -1, y.sight(0, no, 0));
        }
        Edge.due("card 1", -1, y.sight(1, 0, 0));
        for (int t : NO_TICKS) {
            Edge.due("tick " + t, -1, y.sight(0, 1, t));
        }
        Edge.same("refused sights", was, Edge.all(y));
        for (int i = 1; i < 100; i++) {
            Edge.due("log " + i, i, y.sight(0, 0, i));
        }
        was = Edge.all(y);
        Edge.due("a 101st log", -1, y.sight(0, 1, 150));
        Edge.same("a refused 101st log", was, Edge.all(y));
        DoorReader z = Edge.reader(Edge.rooms(8), 1);
        Edge.due("room 7 of eight", 0, z.sight(0, 7, 0));
        Edge.due("room 8 of eight", -1, z.sight(0, 8, 0));
    }

    private static void right() {
        Edge.of(10, "A RIGHT: its number.");
        DoorReader x = Edge.reader(Check.SMALL, 2);
        Edge.due("the first", 0, x.right(1, 2, 0, 199, true));
        x.gap(0, 0, 0);
        x.pass(0, 0, false, 0);
        Edge.due("the second", 1, x.right(0, 0, 0, 0, false));
        Edge.due("the third, told like the second", 2, x.right(0, 0, 0, 0, false));
        Edge.due("the fourth", 3, x.right(0, 0, 199, 199, true));
        Edge.due("count(4)", 4, x.count(4));

        Edge.of(10, "NONE: no such CARD, ROOM, TICKS, from behind to, 100 are there.");
        DoorReader y = Check.with(Check.SMALL);
        Edge.due("no card yet", -1, y.right(0, 0, 0, 0, true));
        y.card();
        String was = Edge.all(y);
        for (int no : new int[] {-1, 3, 8, 10, 100, MIN, MAX}) {
            Edge.due("card " + no, -1, y.right(no, 1, 0, 199, true));
            Edge.due("room " + no, -1, y.right(0, no, 0, 199, true));
        }
        Edge.due("card 1", -1, y.right(1, 1, 0, 199, true));
        for (int t : NO_TICKS) {
            Edge.due("from " + t, -1, y.right(0, 1, t, 199, true));
            Edge.due("to " + t, -1, y.right(0, 1, 0, t, true));
            Edge.due("from and to " + t, -1, y.right(0, 1, t, t, true));
        }
        for (int t = 1; t < 200; t++) {
            Edge.due("from " + t + " to " + (t - 1), -1, y.right(0, 1, t, t - 1, true));
        }
        Edge.due("from 199 to 0", -1, y.right(0, 1, 199, 0, true));
        Edge.same("refused rights", was, Edge.all(y));
        DoorReader z = Edge.reader(Check.SMALL, 1);
        for (int i = 0; i < 100; i++) {
            Edge.due("right " + i, i, z.right(0, 1, i, i, true));
        }
        was = Edge.all(z);
        Edge.due("a 101st", -1, z.right(0, 1, 0, 199, false));
        Edge.same("a refused 101st", was, Edge.all(z));
        Edge.due("the first still decides", 1, z.allowed(0, 1, 0));
    }

    private static DoorReader told() {
        DoorReader x = Edge.reader(Check.SMALL, 10);
        x.pass(9, 1, true, 17);
        x.gap(1, 5, 9);
        x.sight(8, 2, 8);
        x.pass(0, 0, false, 0);
        x.gap(0, 0, 199);
        x.sight(0, 0, 0);
        x.right(0, 1, 0, 0, true);
        return x;
    }

    private static void log() {
        String[] sentences = {
            "Of a LOG what 0 its kind (0 PASS, 1 GAP, 2 SIGHT),",
            "1 CARD (NONE of a GAP),",
            "2 DOOR (of a SIGHT the ROOM),",
            "3 TICK (of a GAP from),",
            "4 of a PASS whether BACK (1, 0), of a GAP to, of a SIGHT NONE."};
        int[][] want = {{0, 1, 2, 0, 1, 2}, {9, -1, 8, 0, -1, 0}, {1, 1, 2, 0, 0, 0}, {17, 5, 8, 0, 0, 0},
            {1, 9, -1, 0, 199, -1}};
        DoorReader x = told();
        for (int what = 0; what < 5; what++) {
            Edge.of(19, sentences[what]);
            for (int k = 0; k < 6; k++) {
                Edge.due("log(" + k + ", " + what + ")", want[what][k], x.log(k, what));
            }
        }
        Edge.of(19, "NONE for others.");
        for (int what = 0; what < 5; what++) {
            for (int k : new int[] {-1, 6, 7, 99, 100, MIN, MAX}) {
                Edge.due("log(" + k + ", " + what + ")", -1, x.log(k, what));
            }
        }
        for (int k = 0; k < 6; k++) {
            for (int what : new int[] {-1, 5, 6, MIN, MAX}) {
                Edge.due("log(" + k + ", " + what + ")", -1, x.log(k, what));
            }
        }
        Edge.due("log(0, 0) of a new object", -1, new DoorReader().log(0, 0));
        Check.build(x, Check.SMALL);
        Edge.due("log(0, 0) of a new building", -1, x.log(0, 0));
    }

    private static void door() {
        Edge.of(20, "Of a DOOR what 0 its first ROOM, 1 its second one, 2 what its CLOCK errs by;");
        StringBuilder text = new StringBuilder(Edge.rooms(8));
        for (int d = 0; d < 10; d++) {
            text.append("door ").append((char) ('m' + d)).append(' ').append((char) ('a' + d % 8)).append(' ')
                    .append((char) ('a' + (d + 3) % 8)).append(' ').append(d % 7).append(';');
        }
        DoorReader x = Check.with(text.toString());
        for (int d = 0; d < 10; d++) {
            Edge.due("door(" + d + ", 0)", d % 8, x.door(d, 0));
            Edge.due("door(" + d + ", 1)", (d + 3) % 8, x.door(d, 1));
            Edge.due("door(" + d + ", 2)", d % 7, x.door(d, 2));
        }
        Edge.of(20, "NONE for others.");
        for (int d : new int[] {-1, 10, 11, MIN, MAX}) {
            for (int what = 0; what < 3; what++) {
                Edge.due("door(" + d + ", " + what + ")", -1, x.door(d, what));
            }
        }
        for (int what : new int[] {-1, 3, 4, MIN, MAX}) {
            Edge.due("door(0, " + what + ")", -1, x.door(0, what));
            Edge.due("door(9, " + what + ")", -1, x.door(9, what));
        }
        DoorReader y = Check.with(Check.SMALL);
        Edge.due("door(2, 0) of two", -1, y.door(2, 0));
        Edge.due("door(0, 0) of none", -1, Check.with(Edge.rooms(2)).door(0, 0));
        Edge.due("door(0, 2) of a new object", -1, new DoorReader().door(0, 2));
    }

    private static void wide() {
        Edge.of(21, "The WIDTH of a ROOM; NONE.");
        DoorReader x = Check.with(
                "room a 4;room b 3;room c 2;room d 1;room e 0;room f 1;room g 2;room h 3;door x a b 6;");
        int[] widths = {4, 3, 2, 1, 0, 1, 2, 3};
        for (int room = 0; room < 8; room++) {
            Edge.due("wide(" + room + ")", widths[room], x.wide(room));
        }
        for (int room : new int[] {-1, 8, 9, MIN, MAX}) {
            Edge.due("wide(" + room + ")", -1, x.wide(room));
        }
        Edge.due("wide(3) of three", -1, Check.with(Check.SMALL).wide(3));
        Edge.due("wide(0) of a new object", -1, new DoorReader().wide(0));
    }

    private static void count() {
        Edge.of(22, "what 0 ROOMS, 1 DOORS, 2 CARDS, 3 LOGS, 4 RIGHTS, 5 bytes of the TAPE.");
        DoorReader x = told();
        x.feed(0, 0, 0, 0, 0);
        x.feed(0, 0, 0, 0, 0);
        x.end(33);
        int[] counts = {3, 2, 10, 6, 1, 33};
        for (int what = 0; what < 6; what++) {
            Edge.due("count(" + what + ")", counts[what], x.count(what));
        }
        x.right(0, 0, 0, 0, true);
        Edge.due("count(4) of one more", 2, x.count(4));
        Edge.due("count(3) as it was", 6, x.count(3));
        x.gap(0, 0, 0);
        Edge.due("count(3) of one more", 7, x.count(3));
        DoorReader y = Check.with(Edge.rooms(8) + Edge.doors(10));
        int[] most = {8, 10, 0, 0, 0, 0};
        for (int what = 0; what < 6; what++) {
            Edge.due("count(" + what + ") of the most rooms and doors", most[what], y.count(what));
        }
        Edge.of(22, "NONE for others.");
        for (int what : new int[] {-1, 6, 7, MIN, MAX}) {
            Edge.due("count(" + what + ")", -1, x.count(what));
            Edge.due("count(" + what + ") of a new object", -1, new DoorReader().count(what));
        }
    }
}
