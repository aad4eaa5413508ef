/** The part "Terms" as far as it tells of texts: its sentences one by one. */
final class EdgesOfTexts {
    private static final String TWO = "room a 0;room b 0;";

    private EdgesOfTexts() {
    }

    static void run() {
        building();
        doors();
        text();
        forms();
        blanks();
        words();
        names();
        numbers();
        sign();
        leftmost();
        least();
        faultOne();
        tooLong();
        theEnd();
        tooMany();
        nameAgain();
        noRoom();
        numberNotAsTold();
        fewRooms();
        nothingChanges();
    }

    private static void building() {
        Edge.of(Edge.TERMS, "THE BUILDING has ROOMS, 2 to 8,");
        Edge.fault(Edge.rooms(0), 6, 0);
        Edge.fault(Edge.rooms(1), 6, 9);
        for (int n = 2; n <= 8; n++) {
            Edge.good(Edge.rooms(n), n, 0);
        }
        Edge.fault(Edge.rooms(9), 2, 72);

        Edge.of(Edge.TERMS, "numbered from 0 on as they are told,");
        DoorReader x = Check.with("room z 3;room a 1;door q a z 0;room m 4;door b m a 0;room c 2;");
        int[] widths = {3, 1, 4, 2, -1};
        for (int room = 0; room < 5; room++) {
            Edge.due("wide(" + room + ")", widths[room], x.wide(room));
        }
        Edge.due("door(0, 0)", 1, x.door(0, 0));
        Edge.due("door(0, 1)", 0, x.door(0, 1));
        Edge.due("door(1, 0)", 2, x.door(1, 0));

        Edge.of(Edge.TERMS, "each with a WIDTH, 0 to 4;");
        for (int width = 0; width <= 4; width++) {
            DoorReader y = Check.with("room a " + width + ";room b " + (4 - width) + ";");
            Edge.due("wide(0) told " + width, width, y.wide(0));
            Edge.due("wide(1) told " + (4 - width), 4 - width, y.wide(1));
        }
        Edge.fault("room a 5;room b 0;", 5, 7);
        Edge.fault("room a 0;room b 5;", 5, 16);

        Edge.of(Edge.TERMS, "ROOM 0 is OUTSIDE.");
        DoorReader y = Edge.reader("room z 0;room out 0;room a 0;door d a z 0;", 1);
        Edge.due("where the owner is without logs", 1, y.rooms(0, 0, 0));
        Edge.due("allowed without a right in ROOM 0", 1, y.allowed(0, 0, 0));
        Edge.due("allowed without a right in a room called out", 0, y.allowed(0, 1, 0));
        Edge.due("a pass from ROOM 0", 0, y.pass(0, 0, true, 5));
        Edge.due("is one from OUTSIDE", 0, y.odd(0, 3));
        Edge.due("inside behind it", 1, y.inside(5, 1, 0));
        Edge.due("a pass into ROOM 0", 1, y.pass(0, 0, false, 7));
        Edge.due("is none from OUTSIDE", -1, y.odd(1, 3));
        Edge.due("not inside behind it", 0, y.inside(7, 2, 1));
    }

    private static void doors() {
        Edge.of(Edge.TERMS, "DOORS, at most 10, numbered as they are told,");
        for (int n = 0; n <= 10; n++) {
            Edge.good(TWO + Edge.doors(n), 2, n);
        }
        Edge.fault(TWO + Edge.doors(11), 2, 18 + 130);
        DoorReader x = Check.with("room a 0;room b 0;room c 0;door z b c 1;door y a b 2;door x c a 3;");
        int[][] told = {{1, 2, 1}, {0, 1, 2}, {2, 0, 3}, {-1, -1, -1}};
        for (int d = 0; d < 4; d++) {
            for (int what = 0; what < 3; what++) {
                Edge.due("door(" + d + ", " + what + ")", told[d][what], x.door(d, what));
            }
        }

        Edge.of(Edge.TERMS, "lie each between two ROOMS (its first and its second one), "
                + "and have a CLOCK that errs by up to 0 to 6 TICKS.");
        for (int errs = 0; errs <= 6; errs++) {
            DoorReader y = Check.with(TWO + "door d b a " + errs + ";");
            Edge.due("its first room", 1, y.door(0, 0));
            Edge.due("its second room", 0, y.door(0, 1));
            Edge.due("error told " + errs, errs, y.door(0, 2));
        }
        Edge.fault(TWO + "door d b a 7;", 5, 29);
    }

    private static void text() {
        Edge.of(Edge.TERMS, "TEXT, at most 600 bytes: {ROOM | DOOR}.");
        Edge.good("room a 0;" + Edge.blanks(582) + "room b 0;", 2, 0);
        Edge.good(TWO + Edge.blanks(582), 2, 0);
        Edge.fault("room a 0;" + Edge.blanks(582) + "room b 0 ", 1, 600);
        Edge.fault("room a 0;" + Edge.blanks(583) + "room b 0", 1, 600);
        Edge.fault(TWO + Edge.blanks(581) + "!", 1, 599);
        Edge.good("room a 0;room b 0;door d a b 0;room c 0;door e c b 0;door f a c 0;room g 0;", 4, 3);
        Edge.fault("door d a b 0;room a 0;room b 0;", 4, 7);
        StringBuilder full = new StringBuilder();
        for (char c = 'a'; c <= 'h'; c++) {
            full.append("room roomnam").append(c).append(" 0004;");
        }
        for (char c = 'a'; c <= 'j'; c++) {
            full.append("door doornam").append(c).append(" roomnama roomnamb 0006;");
        }
        Edge.good(full.toString(), 8, 10);
    }

    private static void forms() {
        Edge.of(Edge.TERMS, "ROOM: room NAME NUMBER ; DOOR: door NAME ROOM ROOM NUMBER ; "
                + "(the NAMES of two ROOMS, then what its CLOCK errs by).");
        Edge.good("room a 1;room b 2;door d a b 3;", 2, 1);
        String[] wrong = {
            "c 0;", "room 0;", "room c ;", "room c 0 room z 0;",
            "room room c 0;", "room c c 0;", "room c 0 0;", "room c 0 ;;",
            "d a b 0;", "door a b 0;", "door d b 0;", "door d a 0;", "door d a b ;", "door d a b 0 room z 0;",
            "door door d a b 0;", "door d d a b 0;", "door d a a b 0;", "door d a b b 0;", "door d a b 0 0;",
            "door d a b 0 ;;"};
        int[] kinds = {1, 1, 1, 1, 1, 1, 1, 1, 1, 3, 1, 1, 1, 1, 1, 4, 4, 1, 1, 1};
        int[] places = {0, 5, 7, 9, 5, 7, 9, 10, 0, 5, 9, 9, 11, 13, 5, 7, 9, 11, 13, 14};
        for (int i = 0; i < wrong.length; i++) {
            Edge.fault(TWO + wrong[i], kinds[i], 18 + places[i]);
        }
    }

    private static void blanks() {
        Edge.of(Edge.TERMS, "TOKENS, blanks (32, 10) between where one likes:");
        Edge.good("room a0;room b4;door d a b6;", 2, 1);
        Edge.good(" \n room \n a \n 0 \n ; \n room\nb\n0\n;\ndoor\nd\na\nb\n0\n;\n", 2, 1);
        Edge.good("\n\n" + TWO + "  ", 2, 0);
        for (int b = 0; b < 256; b++) {
            boolean ofToken = isLetter(b) || isDigit(b) || b == ';';
            if (b == 32 || b == 10) {
                Edge.good((char) b + "room a" + (char) b + "0" + (char) b + ";room b 0;" + (char) b, 2, 0);
            } else if (!ofToken) {
                Edge.fault((char) b + TWO, 1, 0);
                Edge.fault("room" + (char) b + "a 0;room b 0;", 1, 4);
                Edge.fault("room a 0" + (char) b + ";room b 0;", 1, 8);
                Edge.fault(TWO + (char) b, 1, 18);
            }
        }
    }

    private static boolean isLetter(int b) {
        return "abcdefghijklmnopqrstuvwxyz".indexOf(b) >= 0;
    }

    private static boolean isDigit(int b) {
        return "0123456789".indexOf(b) >= 0;
    }

    private static void words() {
        Edge.of(Edge.TERMS, "WORDS (small letters, as many as stand together;");
        for (int b = 0; b < 256; b++) {
            String text = "room " + (char) b + " 0;room bb 0;";
            if (isLetter(b)) {
                Edge.good(text, 2, 0);
            } else {
                Edge.fault(text, 1, b == 32 || b == 10 ? 7 : 5);
            }
        }
        Edge.fault("rooma 0;room b 0;", 1, 0);
        Edge.fault("ro om a 0;room b 0;", 1, 0);
        Edge.fault("roomroom a 0;room b 0;", 1, 0);
        Edge.fault("room a b 0;room b 0;", 1, 7);
        Edge.fault("roOm a 0;room b 0;", 1, 0);
        Edge.fault(TWO + "door dab a b0;door e ab 0;", 4, 18 + 14 + 7);
        Edge.good(TWO + "door dab a b0;", 2, 1);
    }

    private static void names() {
        Edge.of(Edge.TERMS, "a NAME is one of 1 to 8 letters other than room, door),");
        String eight = "abcdefgh";
        for (int n = 1; n <= 8; n++) {
            Edge.good("room " + eight.substring(0, n) + " 0;room z 0;", 2, 0);
            Edge.good("room y 0;room z 0;door " + eight.substring(0, n) + " y z 0;", 2, 1);
            Edge.good("room y 0;room " + eight.substring(0, n) + " 0;door z y " + eight.substring(0, n) + " 0;", 2, 1);
        }
        Edge.fault("room abcdefghi 0;room z 0;", 1, 5);
        Edge.fault(TWO + "door abcdefghi a b 0;", 1, 23);
        Edge.fault(TWO + "door d abcdefghi b 0;", 1, 25);
        Edge.fault(TWO + "door d a abcdefghi 0;", 1, 27);
        for (String word : new String[] {"room", "door"}) {
            Edge.fault("room " + word + " 0;room z 0;", 1, 5);
            Edge.fault(TWO + "door " + word + " a b 0;", 1, 23);
            Edge.fault(TWO + "door d " + word + " b 0;", 1, 25);
            Edge.fault(TWO + "door d a " + word + " 0;", 1, 27);
        }
        Edge.good("room roo 0;room rooms 0;room doo 0;room doors 0;room oor 0;room moor 0;room aroom 0;", 7, 0);
        Edge.good("room a 0;room aa 0;room z 0;room zz 0;room aaaaaaaa 0;room aaaaaaab 0;room baaaaaaa 0;", 7, 0);
    }

    private static void numbers() {
        Edge.of(Edge.TERMS, "NUMBERS (1 to 4 digits),");
        for (String zeros : new String[] {"", "0", "00", "000"}) {
            DoorReader x = Check.with("room a " + zeros + "4;room b " + zeros + "0;door d a b " + zeros + "6;");
            Edge.due("wide told " + zeros + "4", 4, x.wide(0));
            Edge.due("wide told " + zeros + "0", 0, x.wide(1));
            Edge.due("error told " + zeros + "6", 6, x.door(0, 2));
        }
        Edge.fault("room a 00004;room b 0;", 1, 7);
        Edge.fault(TWO + "door d a b 00006;", 1, 29);
        for (int b = 0; b < 256; b++) {
            String text = "room a " + (char) b + ";room b 0;";
            if (isDigit(b) && b <= '4') {
                Edge.good(text, 2, 0);
            } else {
                Edge.fault(text, isDigit(b) ? 5 : 1, b == 32 || b == 10 ? 8 : 7);
            }
        }
        Edge.fault("room a 0 0;room b 0;", 1, 9);
    }

    private static void sign() {
        Edge.of(Edge.TERMS, "the SIGN ; .");
        for (int b = 0; b < 256; b++) {
            String text = "room a 0" + (char) b + " room b 0;";
            if (b == ';') {
                Edge.good(text, 2, 0);
            } else if (isDigit(b)) {
                Edge.fault(text, b <= '4' ? 1 : 5, b <= '4' ? 10 : 7);
            } else {
                Edge.fault(text, 1, b == 32 || b == 10 ? 10 : 8);
            }
        }
        Edge.fault(TWO + ";", 1, 18);
        Edge.fault(";" + TWO, 1, 0);
    }

    private static void leftmost() {
        Edge.of(Edge.TERMS, "FAULTS, the first from the left,");
        String eight = Edge.rooms(8);
        String[] faulty = {"! ", "room z 0;", "door a a b 0;", "door x a q 0;", "door x a b 7;"};
        int[] inside = {0, 0, 5, 9, 11};
        for (int i = 0; i < 5; i++) {
            for (int j = 0; j < 5; j++) {
                Edge.fault(eight + faulty[i] + faulty[j], i + 1, 72 + inside[i]);
                Edge.fault(eight + "door y a b 0;" + faulty[i] + faulty[j] + "?", i + 1, 85 + inside[i]);
            }
        }
        Edge.fault("room a 0;!", 1, 9);
        Edge.fault("room a 0;door a a b 0;", 3, 14);
        Edge.fault("room a 0;door x a q 7;", 4, 18);
        Edge.fault("room a 0;room b 9;", 5, 16);
        Edge.fault(TWO + "room a 9;", 3, 23);
        Edge.fault(TWO + "door a q q 9", 3, 23);
        Edge.fault(TWO + "door d q a 9", 4, 25);
        Edge.fault(TWO + "door d a a 9", 4, 27);
        Edge.fault(TWO + "door d a b 9", 5, 29);
        Edge.fault(TWO + "room c 9", 5, 25);
    }

    private static void least() {
        Edge.of(Edge.TERMS, "of one place the least:");
        Edge.fault("room a 99999;room b 0;", 1, 7);
        Edge.fault(TWO + "door d a b 12345;", 1, 29);
        Edge.fault(TWO + "door d nosuchroom b 0;", 1, 25);
        Edge.fault(TWO + "door d a nosuchroom 0;", 1, 27);
        Edge.fault("room a 0", 1, 8);
        Edge.fault("room a 0;room", 1, 13);
        Edge.fault("room", 1, 4);
        Edge.fault(TWO + "door d room room 0;", 1, 25);
    }

    private static void faultOne() {
        Edge.of(Edge.TERMS, "1 a byte or TOKEN with which no TEXT goes on");
        String[] atStart = {"x", "rooms a 0;", "roo a 0;", "0", ";", "!", "Room", "_"};
        for (String text : atStart) {
            Edge.fault(text, 1, 0);
            Edge.fault(TWO + text, 1, 18);
            Edge.fault(TWO + "\n " + text, 1, 20);
        }
        Edge.fault(TWO + "room 1 0;", 1, 23);
        Edge.fault(TWO + "room ; 0;", 1, 23);
        Edge.fault(TWO + "room ! 0;", 1, 23);
        Edge.fault(TWO + "room c d;", 1, 25);
        Edge.fault(TWO + "room c ;", 1, 25);
        Edge.fault(TWO + "room c -1;", 1, 25);
        Edge.fault(TWO + "room c 0 d", 1, 27);
        Edge.fault(TWO + "room c 0,", 1, 26);
        Edge.fault(TWO + "door 0 a b 0;", 1, 23);
        Edge.fault(TWO + "door d 0 b 0;", 1, 25);
        Edge.fault(TWO + "door d a 0;", 1, 27);
        Edge.fault(TWO + "door d a b;", 1, 28);
        Edge.fault(TWO + "door d a b c;", 1, 29);
        Edge.fault(TWO + "door d a b 0 1;", 1, 31);
    }

    private static void tooLong() {
        Edge.of(Edge.TERMS, "(a WORD, NUMBER that is too long at its first byte;");
        Edge.fault("  abcdefghi", 1, 2);
        Edge.fault("room  abcdefghi 0;room b 0;", 1, 6);
        Edge.fault("room abcdefghijklmnopqrstuvwxyz 0;room b 0;", 1, 5);
        Edge.fault("room  00000;", 1, 6);
        Edge.fault("room a  00000;room b 0;", 1, 8);
        Edge.fault("room a 12345;room b 0;", 1, 7);
        Edge.fault("room a 4294967296;room b 0;", 1, 7);
        Edge.fault("room a 18446744073709551616;room b 0;", 1, 7);
        Edge.fault("room a 340282366920938463463374607431768211456;room b 0;", 1, 7);
        Edge.fault(TWO + "door d a b  00001;", 1, 30);
        Edge.fault("x".repeat(600), 1, 0);
        Edge.fault("room " + "x".repeat(595), 1, 5);
        Edge.fault("room a " + "0".repeat(593), 1, 7);
        Edge.fault(TWO + "a".repeat(28) + "room c 0;", 1, 18);
        Edge.fault(TWO + "room " + "a".repeat(28) + "room 0;", 1, 23);
    }

    private static void theEnd() {
        Edge.of(Edge.TERMS, "the end: at how many bytes there are).");
        String text = "room a 0;room b 0;door d a b 6;";
        for (int n = 0; n <= text.length(); n++) {
            String cut = text.substring(0, n);
            int inWord = n < 4 ? n : n > 9 && n < 13 ? n - 9 : n > 18 && n < 22 ? n - 18 : 0;
            if (n == 18 || n == 31) {
                Edge.good(cut, 2, n == 31 ? 1 : 0);
            } else if (n == 0 || n == 9) {
                Edge.fault(cut, 6, n);
            } else if (inWord > 0) {
                Edge.fault(cut, 1, n - inWord);
            } else {
                Edge.fault(cut, 1, n);
                Edge.fault(cut + " ", 1, n + 1);
                Edge.fault(cut + "\n \n", 1, n + 3);
            }
        }
        DoorReader x = new DoorReader();
        Check.feed(x, text);
        x.end(30);
        Edge.due("building of a tape that was cut", -2, x.building());
        Edge.due("place of that", 30, x.place());
    }

    private static void tooMany() {
        Edge.of(Edge.TERMS, "2 room as a 9th, door as an 11th begins (at that word).");
        String eight = Edge.rooms(8);
        String ten = TWO + Edge.doors(10);
        for (String rest : new String[] {"", " a 0;", ";", " room", " 9 9 9", " abcdefghi", "!"}) {
            Edge.fault(eight + "room" + rest, 2, 72);
            Edge.fault(eight + " \nroom" + rest, 2, 74);
            Edge.fault(ten + "door" + rest, 2, 148);
            Edge.fault(ten + "\ndoor" + rest, 2, 149);
        }
        Edge.good(eight + Edge.doors(10), 8, 10);
        Edge.fault(eight + Edge.doors(10) + "room x 0;", 2, 202);
        Edge.fault(eight + Edge.doors(10) + "door x a b 0;", 2, 202);
        Edge.good(ten + "room c 0;", 3, 10);
        Edge.good(eight + "door x a h 0;", 8, 1);
        Edge.fault(eight + "rooms", 1, 72);
        Edge.fault(ten + "doo", 1, 148);
    }

    private static void nameAgain() {
        Edge.of(Edge.TERMS, "3 a NAME that a ROOM or DOOR ahead has.");
        Edge.fault("room a 0;room a 0;", 3, 14);
        Edge.fault("room a 0;room b 0;room a 1;", 3, 23);
        Edge.fault(TWO + "door a a b 0;", 3, 23);
        Edge.fault(TWO + "door b a b 0;", 3, 23);
        Edge.fault(TWO + "door d a b 0;room d 0;", 3, 36);
        Edge.fault(TWO + "door d a b 0;door e a b 0;door d a b 0;", 3, 49);
        Edge.fault(TWO + "door d a b 0;door e a b 0;door e b a 1;", 3, 49);
        Edge.fault(Edge.rooms(7) + "room g 0;", 3, 68);
        Edge.fault(TWO + Edge.doors(9) + "door m a b 0;", 3, 18 + 117 + 5);
        Edge.fault(TWO + Edge.doors(9) + "door u a b 0;", 3, 18 + 117 + 5);
        Edge.fault("room abcdefgh 0;room abcdefgh 0;", 3, 21);
        Edge.good("room abcdefgh 0;room abcdefgi 0;room bbcdefgh 0;room abcdefg 0;room bcdefgh 0;", 5, 0);
        DoorReader x = Check.with(TWO + "door d a b 0;");
        Edge.due("names of the building ahead", 2, Check.build(x, TWO + "door d a b 0;"));
        Edge.due("a faulty text", -2, Check.build(x, "room p 0;room q 0;door r p q 0;!"));
        Edge.due("its names are not kept", 2, Check.build(x, "room p 0;room q 0;door r p q 0;"));
    }

    private static void noRoom() {
        Edge.of(Edge.TERMS, "4 a ROOM's NAME that no ROOM ahead has;");
        Edge.fault(TWO + "door d c b 0;", 4, 25);
        Edge.fault(TWO + "door d a c 0;", 4, 27);
        Edge.fault(TWO + "door d d b 0;", 4, 25);
        Edge.fault(TWO + "door d a d 0;", 4, 27);
        Edge.fault(TWO + "door d a b 0;door e d b 0;", 4, 38);
        Edge.fault(TWO + "door d a b 0;door e a d 0;", 4, 40);
        Edge.fault(TWO + "door d a c 0;room c 0;", 4, 27);
        Edge.fault(TWO + "door d aa b 0;", 4, 25);
        Edge.fault("door d a b 0;", 4, 7);
        Edge.good(TWO + "room c 0;door d a c 0;door e c b 0;", 3, 2);
        Edge.good(Edge.rooms(8) + "door x a h 0;door y h a 0;", 8, 2);
        DoorReader x = Check.with("room a 0;room b 0;room c 0;");
        Edge.due("a room of the building ahead", -5, Check.build(x, TWO + "door d a c 0;"));
        Edge.due("place of that", 27, x.place());

        Edge.of(Edge.TERMS, "the second ROOM of a DOOR that is its first one again.");
        Edge.fault(TWO + "door d a a 0;", 4, 27);
        Edge.fault(TWO + "door d b b 0;", 4, 27);
        Edge.fault("room a 0;door d a a 0;", 4, 18);
        Edge.fault(Edge.rooms(8) + "door x h h 0;", 4, 81);
        Edge.good(TWO + "door d a b 0;door e a b 0;door f b a 0;", 2, 3);
    }

    private static void numberNotAsTold() {
        Edge.of(Edge.TERMS, "5 a NUMBER that is not as told.");
        int[] no = {5, 6, 7, 9, 10, 99, 100, 999, 1000, 9999};
        for (int n : no) {
            Edge.fault("room a " + n + ";room b 0;", 5, 7);
            Edge.fault("room a 0;room b " + n + ";", 5, 16);
            if (n > 6) {
                Edge.fault(TWO + "door d a b " + n + ";", 5, 29);
            } else {
                Edge.good(TWO + "door d a b " + n + ";", 2, 1);
            }
        }
        Edge.fault("room a  05;room b 0;", 5, 8);
        Edge.fault(TWO + "door d a b 0007;", 5, 29);
    }

    private static void fewRooms() {
        Edge.of(Edge.TERMS, "At the end of a TEXT that has none of these and fewer than 2 ROOMS: 6.");
        Edge.fault("", 6, 0);
        Edge.fault(" ", 6, 1);
        Edge.fault("\n \n", 6, 3);
        Edge.fault("room a 0;", 6, 9);
        Edge.fault("room a 0; ", 6, 10);
        Edge.fault(Edge.blanks(600), 6, 600);
        Edge.fault("room a 4;" + Edge.blanks(591), 6, 600);
        Edge.fault("room a 0;room", 1, 13);
        Edge.fault("room a 0;room a 0;", 3, 14);
        Edge.fault("room a 0;door d a a 0;", 4, 18);
        Edge.fault("room a 5;", 5, 7);
        Edge.good(TWO, 2, 0);
    }

    private static void nothingChanges() {
        Edge.of(Edge.TERMS, "A TEXT with a FAULT changes nothing.");
        String[] faulty = {"room p 4;room q 4;door r p q 6;!", Edge.rooms(9), TWO + Edge.doors(11),
            "room p 4;room q 4;room p 4;", "room p 4;room q 4;door d p r 6;", "room p 4;room q 4;door d p p 6;",
            "room p 4;room q 4;door d p q 7;", "room p 4;", "", "room p 4;room q 4;door d p q 6"};
        int[] kinds = {1, 2, 2, 3, 4, 4, 5, 6, 6, 1};
        for (int i = 0; i < faulty.length; i++) {
            DoorReader x = lively();
            String was = Edge.all(x);
            Edge.due("building of " + faulty[i], -1 - kinds[i], Check.build(x, faulty[i]));
            Edge.same("all answers behind fault " + kinds[i], was, Edge.all(x));
            DoorReader y = lively();
            Check.build(y, faulty[i]);
            Edge.same("answers that were not asked ahead of fault " + kinds[i], was, Edge.all(y));
        }
    }

    static DoorReader lively() {
        DoorReader x = Edge.reader(Check.SMALL, 3);
        x.pass(0, 0, false, 10);
        x.pass(1, 0, false, 12);
        x.gap(1, 40, 45);
        x.pass(0, 0, true, 70);
        x.sight(1, 2, 50);
        x.pass(2, 1, false, 30);
        x.right(0, 1, 0, 30, true);
        x.right(1, 0, 0, 30, false);
        return x;
    }
}
