/** Promises 1 to 5: a new object, feed, end, building, place. */
public final class TextTest {
    public static void main(String[] args) {
        newObject();
        tape();
        cutTape();
        goodTexts();
        tokenFaults();
        otherFaults();
        leftmostAndLeast();
        whatStays();
        Check.finish("TextTest");
    }

    private static void newObject() {
        DoorReader x = new DoorReader();
        for (int what = 0; what <= 5; what++) {
            Check.due("new: count(" + what + ")", 0, x.count(what));
        }
        Check.due("new: place", -1, x.place());
        Check.due("new: card", -1, x.card());
        Check.due("new: wide", -1, x.wide(0));
        Check.due("new: door", -1, x.door(0, 0));
        Check.due("new: log", -1, x.log(0, 0));
        Check.due("new: gap", -1, x.gap(0, 0, 0));
        Check.due("new: inside", 0, x.inside(0, 0, 1));
        Check.due("new: inside behind 1", -1, x.inside(0, 1, 1));
        Check.due("new: many", -1, x.many(0, 0, 0, 1));
        Check.due("new: way", -9, Check.way(x, 0, 0, 0, 0));
        Check.due("new: building of nothing", -7, x.building());
        Check.due("new: place of that", 0, x.place());
    }

    private static void tape() {
        DoorReader x = new DoorReader();
        for (int i = 1; i <= 30; i++) {
            Check.due("feed " + i, 20 * i, x.feed(i, 0, -1, Integer.MIN_VALUE, Integer.MAX_VALUE));
        }
        Check.due("feed on a full tape", -1, x.feed(0, 0, 0, 0, 0));
        Check.due("bytes", 600, x.count(5));
        Check.due("end over all", -1, x.end(601));
        Check.due("end at all", 600, x.end(600));
        Check.due("end below 0", -1, x.end(-1));
        Check.due("end far below 0", -1, x.end(Integer.MIN_VALUE));
        Check.due("end far over", -1, x.end(Integer.MAX_VALUE));
        Check.due("end 581", 581, x.end(581));
        Check.due("feed with 19 left", -1, x.feed(0, 0, 0, 0, 0));
        Check.due("bytes stay", 581, x.count(5));
        Check.due("end 580", 580, x.end(580));
        Check.due("feed with 20 left", 600, x.feed(0, 0, 0, 0, 0));
        Check.due("end 0", 0, x.end(0));
        Check.due("end 1 of none", -1, x.end(1));
        Check.feed(x, "room a");
        Check.feed(x, " 1;room b 2");
        Check.feed(x, ";");
        Check.due("bytes put together", 18, x.count(5));
        Check.due("a text put together", 2, x.building());
        Check.due("bytes behind building", 0, x.count(5));
    }

    /** Bytes that were cut off, or fed for an earlier building, belong to no word or number. */
    private static void cutTape() {
        String text = "room a 0;room bcd 12;";
        int[][] cuts = {{15, 1, 15}, {16, 1, 16}, {19, 1, 19}, {20, 5, 18}, {13, 1, 13}, {12, 1, 9}, {9, 6, 9}};
        for (int[] cut : cuts) {
            DoorReader x = new DoorReader();
            Check.feed(x, text);
            x.end(cut[0]);
            Check.due("cut to " + cut[0], -1 - cut[1], x.building());
            Check.due("place of the cut to " + cut[0], cut[2], x.place());
        }
        DoorReader x = new DoorReader();
        Check.feed(x, text);
        x.building();
        Check.feed(x, "room a 0;room b 1");
        Check.due("a shorter text behind", -2, x.building());
        Check.due("its place", 17, x.place());
    }

    private static void goodTexts() {
        good("room a 0;room b 4;", 2, 0);
        good(" \n room\na\n0\n;\n\nroom b 0004 ; \n", 2, 0);
        good("room a0;room b4;door d a b6;door e b a0;", 2, 2);
        good("room abcdefgh 0;room rooms 0;room doors 0;room roo 1;door oor roo rooms 0;", 4, 1);
        String eight = "room a 0;room b 0;room c 0;room d 0;room e 0;room f 0;room g 0;room h 0;";
        good(eight, 8, 0);
        StringBuilder ten = new StringBuilder("room a 0;room b 0;");
        for (char c = 'm'; c < 'm' + 10; c++) {
            ten.append("door ").append(c).append(" a b 6;");
        }
        good(ten.toString(), 2, 10);
        good("room a 0;room b 1;door d a b 0;room c 2;door e c a 3;", 3, 2);
        StringBuilder full = new StringBuilder("room a 0;room b 4;");
        while (full.length() < 600) {
            full.append(full.length() % 2 == 0 ? ' ' : '\n');
        }
        good(full.toString(), 2, 0);

        DoorReader x = Check.with("room a 0;room b 1;door d a b 0;room c 2;door e c a 3;");
        Check.due("wide of the third", 2, x.wide(2));
        Check.due("first room of the second door", 2, x.door(1, 0));
        Check.due("second room of the second door", 0, x.door(1, 1));
        Check.due("error of the second door", 3, x.door(1, 2));
    }

    private static void good(String text, int rooms, int doors) {
        DoorReader x = new DoorReader();
        int got = Check.build(x, text);
        Check.due("building of " + text, rooms, got);
        Check.due("place of " + text, -1, x.place());
        Check.due("rooms of " + text, rooms, x.count(0));
        Check.due("doors of " + text, doors, x.count(1));
    }

    private static void tokenFaults() {
        String two = "room a 0;room b 0;";
        fault("x", 1, 0);
        fault("  rooms a 0;", 1, 2);
        fault("roo", 1, 0);
        fault("rooma 0;", 1, 0);
        fault(";", 1, 0);
        fault("7", 1, 0);
        fault("\t", 1, 0);
        fault("Room a 0;", 1, 0);
        fault(two + (char) 0, 1, 18);
        fault(two + (char) 160, 1, 18);
        fault(two + (char) 225, 1, 18);
        fault(two + "room", 1, 22);
        fault(two + "room  ", 1, 24);
        fault(two + "room c", 1, 24);
        fault(two + "room c 0", 1, 26);
        fault(two + "room c 0 \n", 1, 28);
        fault(two + "room room 0;", 1, 23);
        fault(two + "room door 0;", 1, 23);
        fault(two + "room 3 0;", 1, 23);
        fault(two + "room c;", 1, 24);
        fault(two + "room c d;", 1, 25);
        fault(two + "room c 0 0;", 1, 27);
        fault(two + "room c 0d;", 1, 26);
        fault(two + "room c 0:", 1, 26);
        fault(two + "room c -1;", 1, 25);
        fault(two + "room c 0;;", 1, 27);
        fault(two + "room abcdefghi 0;", 1, 23);
        fault(two + "room c 00000;", 1, 25);
        fault(two + "door d a b", 1, 28);
        fault(two + "door d a;", 1, 26);
        fault(two + "door d a 1", 1, 27);
        fault(two + "door d;", 1, 24);
        fault(two + "door d room b 0;", 1, 25);
        fault(two + "door d a door 0;", 1, 27);
        fault(two + "door d a abcdefghi 0;", 1, 27);
        fault(two + "door d a b c;", 1, 29);
        fault(two + "door d a b 6", 1, 30);
    }

    private static void otherFaults() {
        String two = "room a 0;room b 0;";
        StringBuilder eight = new StringBuilder();
        for (char c = 'a'; c <= 'h'; c++) {
            eight.append("room ").append(c).append(" 0;");
        }
        fault(eight + "room i 0;", 2, 72);
        fault(eight + " room", 2, 73);
        fault(eight + "roo", 1, 72);
        StringBuilder ten = new StringBuilder(two);
        for (char c = 'm'; c < 'm' + 10; c++) {
            ten.append("door ").append(c).append(" a b 6;");
        }
        fault(ten + "door x a b 0;", 2, ten.length());
        fault(ten + "door;", 2, ten.length());
        fault("room a 0;room a 0;", 3, 14);
        fault(two + "door b a b 0;", 3, 23);
        fault(two + "door d a b 0;room d 0;", 3, 36);
        fault(two + "door d a b 0;door d a b 0;", 3, 36);
        fault(two + "door d c b 0;", 4, 25);
        fault(two + "door d a c 0;", 4, 27);
        fault(two + "door d d b 0;", 4, 25);
        fault(two + "door d a a 0;", 4, 27);
        fault(two + "door d a b 0;door e d b 0;", 4, 38);
        fault(two + "door d a c 0;room c 0;", 4, 27);
        fault(two + "room c 5;", 5, 25);
        fault(two + "room c 9999;", 5, 25);
        fault(two + "door d a b 7;", 5, 29);
        fault("", 6, 0);
        fault("  \n", 6, 3);
        fault("room a 0;", 6, 9);
        fault("room a 0; \n ", 6, 12);
    }

    private static void leftmostAndLeast() {
        String two = "room a 0;room b 0;";
        fault(two + "room a 9;!", 3, 23);
        fault(two + "room c 9 !", 5, 25);
        fault(two + "room c 12345 !", 1, 25);
        fault(two + "door d c a 9", 4, 25);
        fault(two + "door a c a 9", 3, 23);
        fault("room a 9", 5, 7);
        fault("door a a a 0;", 4, 7);
        fault("door a b", 4, 7);
    }

    private static void fault(String text, int kind, int place) {
        DoorReader x = new DoorReader();
        Check.due("building of " + text, -1 - kind, Check.build(x, text));
        Check.due("place in " + text, place, x.place());
        Check.due("rooms behind " + text, 0, x.count(0));
        Check.due("tape behind " + text, 0, x.count(5));
    }

    private static void whatStays() {
        DoorReader x = Check.with(Check.SMALL);
        x.card();
        x.card();
        x.pass(0, 0, false, 10);
        x.right(0, 1, 0, 199, true);
        Check.due("a faulty building", -4, Check.build(x, "room p 3;room p 3;"));
        Check.due("place of it", 14, x.place());
        Check.due("rooms stay", 3, x.count(0));
        Check.due("doors stay", 2, x.count(1));
        Check.due("cards stay", 2, x.count(2));
        Check.due("logs stay", 1, x.count(3));
        Check.due("rights stay", 1, x.count(4));
        Check.due("widths stay", 1, x.wide(1));
        Check.due("doors' rooms stay", 2, x.door(1, 1));
        Check.due("place stays till the next building", 14, x.place());
        Check.due("what is known stays", 2, x.rooms(0, 50, 1));
        Check.due("way stays", 1, Check.way(x, 0, 50, 1, 50));

        Check.due("a new building", 2, Check.build(x, "room p 3;room q 4;door d p q 0;"));
        Check.due("place without a fault", -1, x.place());
        Check.due("rooms then", 2, x.count(0));
        Check.due("doors then", 1, x.count(1));
        Check.due("no cards then", 0, x.count(2));
        Check.due("no logs then", 0, x.count(3));
        Check.due("no rights then", 0, x.count(4));
        Check.due("no such card then", -1, x.rooms(0, 0, 0));
        Check.due("first card then", 0, x.card());
        Check.due("outside then", 1, x.rooms(0, 50, 0));
        Check.due("a gap then", 0, x.gap(0, 10, 10));
        Check.due("known then", 3, x.rooms(0, 50, 1));
        Check.due("not allowed then", 0, x.allowed(0, 1, 0));
        Check.due("way then", 1, Check.way(x, 0, 50, 1, 50));
    }
}
