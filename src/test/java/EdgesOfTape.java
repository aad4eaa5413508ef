/** Promises 1 to 5, sentence by sentence: a new object, feed, end, building, place. */
final class EdgesOfTape {
    private static final String TWO = "room a 0;room b 0;";

    private EdgesOfTape() {
    }

    static void run() {
        newObject();
        bytesOfFeed();
        feedCounts();
        feedRefused();
        end();
        endRefused();
        buildingReads();
        buildingReplaces();
        buildingForgets();
        buildingFaults();
        place();
    }

    private static void newObject() {
        Edge.of(1, "No BUILDING, no CARDS, LOGS, RIGHTS, an empty TAPE.");
        DoorReader used = EdgesOfTexts.lively();
        used.feed(1, 2, 3, 4, 5);
        DoorReader x = new DoorReader();
        for (int what = 0; what <= 5; what++) {
            Edge.due("count(" + what + ")", 0, x.count(what));
        }
        Edge.due("card()", -1, x.card());
        Edge.due("pass(0, 0, false, 0)", -1, x.pass(0, 0, false, 0));
        Edge.due("gap(0, 0, 0)", -1, x.gap(0, 0, 0));
        Edge.due("sight(0, 0, 0)", -1, x.sight(0, 0, 0));
        Edge.due("right(0, 0, 0, 0, true)", -1, x.right(0, 0, 0, 0, true));
        Edge.due("rooms(0, 0, 0)", -1, x.rooms(0, 0, 0));
        Edge.due("way(0, 0, 0, 0) throws", -9, Check.way(x, 0, 0, 0, 0));
        Edge.due("broken(0, 0)", -1, x.broken(0, 0));
        Edge.due("many(0, 0, 0, 0)", -1, x.many(0, 0, 0, 0));
        Edge.due("allowed(0, 0, 0)", -1, x.allowed(0, 0, 0));
        Edge.due("odd(0, 0)", -1, x.odd(0, 0));
        Edge.due("pairs(0, 1, 0, 0)", -1, x.pairs(0, 1, 0, 0));
        Edge.due("log(0, 0)", -1, x.log(0, 0));
        Edge.due("door(0, 0)", -1, x.door(0, 0));
        Edge.due("wide(0)", -1, x.wide(0));
        for (int what = 0; what <= 2; what++) {
            Edge.due("inside(0, 0, " + what + ")", 0, x.inside(0, 0, what));
            Edge.due("inside(0, 1, " + what + ")", -1, x.inside(0, 1, what));
        }
        Edge.due("end(1)", -1, x.end(1));
        Edge.due("end(0)", 0, x.end(0));
        Edge.due("building()", -7, x.building());
        Edge.due("place()", 0, x.place());
        Edge.due("count(2) of the other object", 3, used.count(2));
        Edge.due("count(5) of the other object", 20, used.count(5));
    }

    private static void bytesOfFeed() {
        Edge.of(2, "Twenty bytes come behind the TAPE, of each number the highest first:");
        int[] signs = {'!', 0x80, 0xFF, 0x00, 0x7F, ';'};
        for (int sign : signs) {
            for (int at = 0; at < 20; at++) {
                for (int ahead = 0; ahead <= 20; ahead += 20) {
                    DoorReader x = new DoorReader();
                    if (ahead > 0) {
                        Check.feed(x, Edge.blanks(ahead));
                    }
                    int[] n = {0x20202020, 0x20202020, 0x20202020, 0x20202020, 0x20202020};
                    int shift = 24 - 8 * (at % 4);
                    n[at / 4] = n[at / 4] & ~(0xFF << shift) | sign << shift;
                    x.feed(n[0], n[1], n[2], n[3], n[4]);
                    Edge.due("building() of byte " + sign + " among blanks", -2, x.building());
                    Edge.due("place() of that", ahead + at, x.place());
                }
            }
        }
        DoorReader x = new DoorReader();
        x.feed(0x726F6F6D, 0x20612030, 0x3B726F6F, 0x6D206220, 0x343B2020);
        Edge.due("building() of room a 0;room b 4;", 2, x.building());
        Edge.due("wide(1)", 4, x.wide(1));
        x.feed(0x20202020, 0x20202020, 0x20202020, 0x20202020, 0x2020726F);
        x.feed(0x6F6D2061, 0x20303B72, 0x6F6F6D20, 0x6220333B, 0x20202020);
        Edge.due("building() of a word in two feeds", 2, x.building());
        Edge.due("wide(1) then", 3, x.wide(1));
    }

    private static void feedCounts() {
        Edge.of(2, "how many it has;");
        DoorReader x = new DoorReader();
        for (int i = 1; i <= 30; i++) {
            Edge.due("feed number " + i, 20 * i, x.feed(0, -1, Integer.MIN_VALUE, Integer.MAX_VALUE, 1));
            Edge.due("count(5)", 20 * i, x.count(5));
        }
        x.end(7);
        Edge.due("feed behind end(7)", 27, x.feed(0, 0, 0, 0, 0));
        x.building();
        Edge.due("feed behind building()", 20, x.feed(0, 0, 0, 0, 0));
    }

    private static void feedRefused() {
        Edge.of(2, "NONE if these would be more than 600.");
        for (int cut = 575; cut <= 600; cut++) {
            DoorReader x = new DoorReader();
            Check.feed(x, TWO + Edge.blanks(582));
            x.end(cut);
            boolean fits = cut <= 580;
            Edge.due("feed behind " + cut, fits ? cut + 20 : -1, x.feed(0, 0, 0, 0, 0));
            Edge.due("count(5) then", fits ? cut + 20 : cut, x.count(5));
            Edge.due("building() then", fits ? -2 : 2, x.building());
            Edge.due("place() then", fits ? cut : -1, x.place());
        }
    }

    private static void end() {
        Edge.of(3, "The TAPE has its first n bytes alone: n;");
        for (int n = 0; n <= 40; n++) {
            DoorReader x = new DoorReader();
            Check.feed(x, TWO + Edge.blanks(21) + "!");
            Edge.due("end(" + n + ")", n, x.end(n));
            Edge.due("count(5) then", n, x.count(5));
            Edge.due("end(" + (n + 1) + ") then", -1, x.end(n + 1));
            boolean good = n >= 18 && n < 40;
            if (good) {
                Edge.due("building() then", 2, x.building());
            } else {
                x.building();
                Edge.due("no building then", 0, x.count(0));
            }
        }
        DoorReader x = new DoorReader();
        Check.feed(x, "room a 0;!!!!!!!!!!!");
        Edge.due("end(9)", 9, x.end(9));
        Check.feed(x, "room b 0;??");
        Edge.due("end(18)", 18, x.end(18));
        Edge.due("end(18) again", 18, x.end(18));
        Edge.due("building() of what was left", 2, x.building());
        Check.feed(x, Edge.blanks(600));
        Edge.due("end(600)", 600, x.end(600));
        Edge.due("end(599)", 599, x.end(599));
    }

    private static void endRefused() {
        Edge.of(3, "NONE if it has less, or n is below 0.");
        int[] far = {-1, -2, -600, Integer.MIN_VALUE, 601, Integer.MAX_VALUE};
        for (int bytes = 0; bytes <= 600; bytes += 20) {
            DoorReader x = new DoorReader();
            Check.feed(x, TWO + Edge.blanks(582));
            x.end(bytes);
            Edge.due("end(" + (bytes + 1) + ") of " + bytes, -1, x.end(bytes + 1));
            for (int n : far) {
                Edge.due("end(" + n + ") of " + bytes, -1, x.end(n));
            }
            Edge.due("count(5) then", bytes, x.count(5));
            Edge.due("building() then", bytes >= 20 ? 2 : -7, x.building());
        }
    }

    private static void buildingReads() {
        Edge.of(4, "The TAPE (empty then) is read as a BUILDING,");
        DoorReader x = new DoorReader();
        Check.feed(x, TWO);
        Edge.due("building()", 2, x.building());
        Edge.due("count(5)", 0, x.count(5));
        Edge.due("end(1)", -1, x.end(1));
        Edge.due("building() of the empty tape", -7, x.building());
        Check.feed(x, "room c 0;room d 0;room e !");
        Edge.due("building() of a fault", -2, x.building());
        Edge.due("count(5) behind a fault", 0, x.count(5));
        Edge.due("end(1) behind a fault", -1, x.end(1));
        Check.feed(x, "room c");
        Edge.due("building() of a start alone", -2, x.building());
        Edge.due("place() of that", 6, x.place());
        Check.feed(x, " 0;room d 0;");
        Edge.due("building() of the rest alone", -2, x.building());
        Edge.due("place() of that", 1, x.place());
    }

    private static void buildingReplaces() {
        Edge.of(4, "in place of the one there is, without CARDS, LOGS, RIGHTS then: how many ROOMS;");
        DoorReader x = EdgesOfTexts.lively();
        Edge.all(x);
        Edge.due("building() of 5 rooms", 5,
                Check.build(x, "room a 4;room b 3;room c 2;room d 1;room e 0;door d1 a b 0;".replace("d1", "z")));
        int[] counts = {5, 1, 0, 0, 0, 0};
        for (int what = 0; what <= 5; what++) {
            Edge.due("count(" + what + ")", counts[what], x.count(what));
        }
        Edge.due("wide(0)", 4, x.wide(0));
        Edge.due("door(0, 2)", 0, x.door(0, 2));
        Edge.due("door(1, 0) is gone", -1, x.door(1, 0));
        Edge.due("log(0, 0) is gone", -1, x.log(0, 0));
        Edge.due("odd(0, 0) is gone", -1, x.odd(0, 0));
        Edge.due("rooms(0, 0, 0) without cards", -1, x.rooms(0, 0, 0));
        Edge.due("many(0, 0, 0, 1) without cards", 0, x.many(0, 0, 0, 1));
        Edge.due("many(0, 0, 1, 1) without logs", -1, x.many(0, 0, 1, 1));
        Edge.due("card()", 0, x.card());
        Edge.due("card()", 1, x.card());
        Edge.due("rooms(0, 60, 0)", 1, x.rooms(0, 60, 0));
        Edge.due("way(0, 60, 0, 30)", 0, Check.way(x, 0, 60, 0, 30));
        Edge.due("way(0, 60, 1, 30)", -1, Check.way(x, 0, 60, 1, 30));
        Edge.due("allowed(0, 1, 20)", 0, x.allowed(0, 1, 20));
        Edge.due("allowed(1, 0, 20)", 1, x.allowed(1, 0, 20));
        Edge.due("right()", 0, x.right(0, 1, 0, 0, true));
        for (int i = 0; i < 12; i++) {
            Edge.due("pass()", i, x.pass(0, 0, i % 2 == 1, 10 * i));
        }
        Edge.due("rooms(0, 0, 12)", 2, x.rooms(0, 0, 12));
        Edge.due("building() of 8 rooms", 8, Check.build(x, Edge.rooms(8)));
        Edge.due("wide(4) then", 0, x.wide(4));
        Edge.due("door(0, 0) then", -1, x.door(0, 0));
        Edge.due("building() of 2 rooms", 2, Check.build(x, TWO));
        Edge.due("wide(2) then", -1, x.wide(2));
    }

    /** What was known ahead, behind as many logs and of the same card, tick and room, is not told again. */
    private static void buildingForgets() {
        DoorReader x = Check.with("room a 0;room b 0;door d a b 0;");
        int[] ticks = {5, 9, 7};
        for (int t : ticks) {
            x.card();
            x.gap(0, t, t);
            x.right(0, 1, t, t, true);
            for (int asked : ticks) {
                Edge.due("way(0, 50, 1, " + asked + ") with a gap in " + t, asked >= t ? 1 : 0,
                        Check.way(x, 0, 50, 1, asked));
                Edge.due("rooms(0, " + asked + ", 1) with a gap in " + t, asked >= t ? 3 : 1, x.rooms(0, asked, 1));
                Edge.due("allowed(0, 1, " + asked + ") with a right in " + t, asked == t ? 1 : 0,
                        x.allowed(0, 1, asked));
            }
            Edge.due("building()", 2, Check.build(x, "room a 0;room b 0;door d a b 0;"));
        }
        x.card();
        Edge.due("way(0, 50, 1, 50) without logs", -1, Check.way(x, 0, 50, 1, 50));
        Edge.due("way(0, 50, 0, 50) without logs", 0, Check.way(x, 0, 50, 0, 50));
        Edge.due("building()", 2, Check.build(x, "room a 0;room b 4;door d b a 6;"));
        x.card();
        x.gap(0, 50, 50);
        Edge.due("way(0, 50, 1, 44) by another clock", 0, Check.way(x, 0, 50, 1, 44));
        Edge.due("rooms(0, 44, 1) by another clock", 3, x.rooms(0, 44, 1));
        Edge.due("broken(0, 1)", -1, x.broken(0, 1));
    }

    private static void buildingFaults() {
        Edge.of(4, "with a FAULT 1 less than minus its kind (-2 to -7), and all else stays.");
        String[] faulty = {"x", Edge.rooms(9), "room a 0;room a 0;", TWO + "door d a c 0;", "room a 5;", "room a 0;"};
        for (int i = 0; i < 6; i++) {
            DoorReader x = EdgesOfTexts.lively();
            String was = Edge.all(x);
            Edge.due("building() of fault " + (i + 1), -2 - i, Check.build(x, faulty[i]));
            Edge.same("all else", was, Edge.all(x));
            Edge.due("card() goes on", 3, x.card());
            Edge.due("gap() goes on", 6, x.gap(0, 0, 0));
            Edge.due("right() goes on", 2, x.right(0, 0, 0, 0, true));
        }
        DoorReader x = new DoorReader();
        Edge.due("building() of the first text", -2, Check.build(x, TWO + "!"));
        Edge.due("card() without a building", -1, x.card());
        Edge.due("count(0) without a building", 0, x.count(0));
    }

    private static void place() {
        Edge.of(5, "The place of the FAULT of the latest building(); NONE without one.");
        DoorReader x = new DoorReader();
        Edge.due("place() of a new object", -1, x.place());
        Check.feed(x, TWO + "!");
        Edge.due("place() ahead of building()", -1, x.place());
        x.building();
        Edge.due("place() of the fault", 18, x.place());
        Edge.due("place() again", 18, x.place());
        Check.feed(x, "room a");
        x.end(3);
        Edge.due("place() behind feed and end", 18, x.place());
        x.end(0);
        Edge.due("place() behind end(0)", 18, x.place());
        Check.feed(x, " x");
        x.building();
        Edge.due("place() of the later fault", 1, x.place());
        Check.feed(x, "x");
        x.building();
        Edge.due("place() of a fault at 0", 0, x.place());
        Edge.due("a good building()", 2, Check.build(x, TWO));
        Edge.due("place() without a fault", -1, x.place());
        x.building();
        Edge.due("place() of the empty text's fault", 0, x.place());
        x.card();
        x.pass(0, 0, false, 0);
        x.rooms(0, 0, 0);
        Edge.due("place() behind other calls", 0, x.place());
        Check.build(x, Edge.blanks(600));
        Edge.due("place() of a fault at 600", 600, x.place());
    }
}
