/** The part "Terms" as far as it tells of ticks, logs, ways and rights: its sentences one by one. */
final class EdgesOfTime {
    private static final int[] NO_TICKS = {-1, 200, -25, 225, Integer.MIN_VALUE, Integer.MAX_VALUE};
    private static final String CHAIN = "room a 0;room b 0;room c 0;door d a b 0;door e b c 0;";

    private EdgesOfTime() {
    }

    static void run() {
        ticks();
        days();
        hours();
        cards();
        logs();
        passes();
        gaps();
        sights();
        behind();
        eachTick();
        aheadOfAll();
        oneDoor();
        widths();
        widthsOfOthers();
        passOrFree();
        passInTime();
        justOnce();
        order();
        free();
        seen();
        can();
        broken();
        brokenAt();
        rights();
        constant();
        longUse();
    }

    /** Two rooms of these widths and a door whose clock errs by so much. */
    private static String line(int wideA, int wideB, int errs) {
        return "room a " + wideA + ";room b " + wideB + ";door d a b " + errs + ";";
    }

    private static void ticks() {
        Edge.of(Edge.TERMS, "TICKS are numbers 0 to 199;");
        DoorReader x = Edge.reader(Check.SMALL, 1);
        for (int t : NO_TICKS) {
            Edge.due("pass in " + t, -1, x.pass(0, 0, false, t));
            Edge.due("gap from " + t, -1, x.gap(0, t, 199));
            Edge.due("gap to " + t, -1, x.gap(0, 0, t));
            Edge.due("sight in " + t, -1, x.sight(0, 0, t));
            Edge.due("right from " + t, -1, x.right(0, 0, t, 199, true));
            Edge.due("right to " + t, -1, x.right(0, 0, 0, t, true));
            Edge.due("rooms in " + t, -1, x.rooms(0, t, 0));
            Edge.due("way in " + t, -9, Check.way(x, 0, t, 0, 0));
            Edge.due("way, asked for " + t, -9, Check.way(x, 0, 0, 0, t));
            Edge.due("many in " + t, -1, x.many(0, t, 0, 0));
            Edge.due("inside in " + t, -1, x.inside(t, 0, 0));
            Edge.due("allowed in " + t, -1, x.allowed(0, 0, t));
        }
        int log = 0;
        for (int t = 0; t <= 199; t += 199) {
            Edge.due("rooms in " + t, 1, x.rooms(0, t, 0));
            Edge.due("way in " + t, 0, Check.way(x, 0, t, 0, t));
            Edge.due("many in " + t, 1, x.many(0, t, 0, 0));
            Edge.due("inside in " + t, 0, x.inside(t, 0, 1));
            Edge.due("allowed in " + t, 1, x.allowed(0, 0, t));
        }
        for (int t = 0; t <= 199; t += 199) {
            Edge.due("pass in " + t, log++, x.pass(0, 0, false, t));
            Edge.due("gap from and to " + t, log++, x.gap(0, t, t));
            Edge.due("sight in " + t, log++, x.sight(0, 0, t));
            Edge.due("right from and to " + t, t / 199, x.right(0, 0, t, t, true));
        }
    }

    private static void days() {
        Edge.of(Edge.TERMS, "DAYS have 25 TICKS (DAY of a TICK: by 25, cut; HOUR: what is left).");
        for (int t = 0; t < 199; t++) {
            DoorReader x = Edge.reader(line(0, 0, 0), 2);
            x.pass(0, 0, false, t);
            x.pass(1, 0, false, t + 1);
            int sameDay = (t + 1) % 25 == 0 ? 0 : 1;
            Edge.due("pairs of " + t + " and " + (t + 1), sameDay, x.pairs(0, 1, 1, 1));
            Edge.due("near pairs of " + t + " and " + (t + 1), sameDay, x.pairs(0, 1, 1, 0));
        }
        for (int day = 0; day < 8; day++) {
            DoorReader x = Edge.reader(line(0, 0, 0), 2);
            x.pass(0, 0, false, 25 * day);
            x.pass(1, 0, false, 25 * day + 24);
            Edge.due("pairs of the ends of DAY " + day, 1, x.pairs(0, 1, 24, 0));
        }
    }

    private static void hours() {
        int[][] late = {{25, 0}, {37, 12}, {49, 24}, {175, 0}, {199, 24}, {188, 13}};
        for (int[] own : late) {
            for (int hour = 0; hour < 25; hour++) {
                DoorReader x = Edge.reader(line(0, 0, 0), 1);
                x.pass(0, 0, false, hour);
                x.pass(0, 0, false, own[0]);
                Edge.due("odd 2 of " + own[0] + " behind " + hour, hour >= own[1] ? 1 : 0, x.odd(1, 2));
                Edge.due("odd 3 of " + own[0] + " behind " + hour, 1, x.odd(1, 3));
            }
        }
    }

    private static void cards() {
        Edge.of(Edge.TERMS, "CARDS, at most 10, numbered as they come.");
        DoorReader x = Check.with(CHAIN);
        for (int i = 0; i < 10; i++) {
            Edge.due("no such card yet", -1, x.rooms(i, 0, 0));
            Edge.due("card()", i, x.card());
            Edge.due("the card is there", 1, x.rooms(i, 0, 0));
        }
        Edge.due("an 11th", -1, x.card());
        Edge.due("no such card", -1, x.rooms(10, 0, 0));
    }

    private static void logs() {
        Edge.of(Edge.TERMS, "LOGS, at most 100, numbered as they come, whatever their TICKS are:");
        DoorReader x = Edge.reader(CHAIN, 1);
        Edge.due("pass in 199", 0, x.pass(0, 0, false, 199));
        Edge.due("gap from 0", 1, x.gap(0, 0, 5));
        Edge.due("sight in 100", 2, x.sight(0, 0, 100));
        Edge.due("pass in 50", 3, x.pass(0, 0, false, 50));
        int[] ticks = {199, 0, 100, 50};
        for (int k = 0; k < 4; k++) {
            Edge.due("log(" + k + ", 3)", ticks[k], x.log(k, 3));
        }
        for (int i = 4; i < 100; i++) {
            int t = 199 - i;
            Edge.due("log " + i, i, i % 2 == 0 ? x.gap(1, t, t) : x.sight(0, 0, t));
        }
        Edge.due("a 101st, a pass", -1, x.pass(0, 0, false, 0));
        Edge.due("a 101st, a gap", -1, x.gap(0, 0, 0));
        Edge.due("a 101st, a sight", -1, x.sight(0, 0, 0));
        Edge.due("count(3)", 100, x.count(3));
        Edge.due("log(99, 3)", 100, x.log(99, 3));
    }

    private static void passes() {
        Edge.of(Edge.TERMS, "a PASS (a CARD, a DOOR, whether BACK: from its second ROOM to its first one, "
                + "and a TICK by its CLOCK; at most 12 of one CARD);");
        DoorReader x = Edge.reader("room a 0;room b 0;door d a b 0;door e b a 0;", 2);
        x.pass(0, 0, false, 10);
        Edge.knows(x, "from first to second", 9, "12");
        x.pass(0, 0, true, 20);
        Edge.knows(x, "from second to first", 19, "21");
        x.pass(0, 1, true, 30);
        Edge.knows(x, "from second to first of the other door", 29, "12");
        x.pass(0, 1, false, 40);
        Edge.knows(x, "from first to second of the other door", 39, "21");
        Edge.due("not broken by these", -1, x.broken(0, 4));
        Edge.due("another card's pass back", 4, x.pass(1, 0, true, 10));
        Edge.due("breaks it", 4, x.broken(1, 5));
        for (int i = 4; i < 12; i++) {
            Edge.due("pass number " + (i + 1) + " of the card", i + 1, x.pass(0, 0, i % 2 == 1, 50 + i));
        }
        Edge.due("a 13th of the card", -1, x.pass(0, 0, false, 100));
        for (int i = 1; i < 12; i++) {
            Edge.due("pass number " + (i + 1) + " of the other card", i + 12, x.pass(1, 0, false, 0));
        }
        Edge.due("a 13th of the other card", -1, x.pass(1, 0, false, 0));
    }

    private static void gaps() {
        Edge.of(Edge.TERMS,
                "a GAP (a DOOR that was held, or whose logs are lost, from a TICK to a TICK by its CLOCK);");
        for (int t = 8; t <= 14; t++) {
            DoorReader x = Edge.reader(line(0, 0, 0), 1);
            x.gap(0, 10, 12);
            x.sight(0, 0, t - 1);
            x.sight(0, 1, t);
            Edge.due("through in " + t, t >= 10 && t <= 12 ? 2 : 0, x.rooms(0, t, 3));
        }
        DoorReader x = Edge.reader(line(0, 0, 0), 1);
        x.gap(0, 10, 10);
        Edge.knows(x, "a gap of one tick", 9, "13");
        DoorReader y = Edge.reader(line(0, 0, 0), 10);
        y.gap(0, 0, 199);
        Edge.due("a gap over all is for all cards", 10, y.many(1, 0, 1, 1));
        Edge.due("to the end", 10, y.many(1, 199, 1, 1));
    }

    private static void sights() {
        Edge.of(Edge.TERMS, "a SIGHT (a guard saw a CARD's owner in a ROOM in a TICK).");
        DoorReader x = Edge.reader(line(0, 0, 0), 2);
        x.gap(0, 10, 20);
        x.sight(0, 1, 15);
        Edge.knows(x, "seen in b", 14, "323");
        Edge.due("the other card was not seen", 3, x.rooms(1, 15, 2));
        x.sight(1, 0, 12);
        Edge.due("the other card seen outside", 1, x.rooms(1, 12, 3));
        Edge.due("of the first that says nothing", 3, x.rooms(0, 12, 3));
    }

    private static void behind() {
        Edge.of(Edge.TERMS, "A WAY of a CARD as known behind the first n LOGS (n 0 to how many there are; here and below)");
        DoorReader x = Edge.reader(line(0, 0, 1), 1);
        x.gap(0, 10, 10);
        x.sight(0, 1, 12);
        x.pass(0, 0, false, 30);
        int[] rooms = {1, 3, 2, 0};
        int[] many = {1, 1, 0, 0};
        int[] inside = {0, 1, 1, 0};
        int[] broken = {-1, -1, -1, -1};
        for (int n = 0; n <= 3; n++) {
            Edge.due("rooms(0, 12, " + n + ")", rooms[n], x.rooms(0, 12, n));
            Edge.due("many(0, 12, " + n + ", 1)", many[n], x.many(0, 12, n, 1));
            Edge.due("inside(12, " + n + ", 1)", inside[n], x.inside(12, n, 1));
            Edge.due("broken(0, " + n + ")", broken[n], x.broken(0, n));
        }
        x.pass(0, 0, false, 33);
        Edge.due("broken(0, 4)", 3, x.broken(0, 4));
        Edge.due("broken(0, 3) stays", -1, x.broken(0, 3));
        for (int n : new int[] {-1, 5, 6, 100, 101, Integer.MIN_VALUE, Integer.MAX_VALUE}) {
            Edge.due("rooms(0, 12, " + n + ")", -1, x.rooms(0, 12, n));
            Edge.due("many(0, 12, " + n + ", 1)", -1, x.many(0, 12, n, 1));
            Edge.due("inside(12, " + n + ", 1)", -1, x.inside(12, n, 1));
            Edge.due("broken(0, " + n + ")", -1, x.broken(0, n));
        }
    }

    private static void eachTick() {
        Edge.of(Edge.TERMS, "tells for each TICK from 0 to 199 in which ROOM its owner is as that TICK ends.");
        DoorReader x = Edge.reader(line(0, 0, 0), 1);
        x.pass(0, 0, false, 0);
        Edge.knows(x, "gone in TICK 0", 0, "22");
        Edge.due("a way's TICK 0", 1, Check.way(x, 0, 199, 1, 0));
        x.pass(0, 0, true, 199);
        Edge.knows(x, "back in TICK 199", 198, "21");
        Edge.due("a way's TICK 198", 1, Check.way(x, 0, 199, 0, 198));
        Edge.due("a way's TICK 199", 0, Check.way(x, 0, 199, 0, 199));
        DoorReader y = Edge.reader(line(0, 0, 6), 1);
        y.pass(0, 0, false, 199);
        Edge.knows(y, "gone by TICK 199", 192, "13333332");
        y.sight(0, 0, 199);
        Edge.due("a pass behind TICK 199 is none", 0, y.rooms(0, 0, 2));
    }

    private static void aheadOfAll() {
        Edge.of(Edge.TERMS, "Ahead of TICK 0 the owner is OUTSIDE, and has been so for long.");
        for (int wide = 0; wide <= 4; wide++) {
            for (int t = 0; t <= 5; t++) {
                DoorReader x = Edge.reader(line(wide, 0, 0), 2);
                x.pass(0, 0, false, t);
                Edge.due("OUTSIDE of width " + wide + " left in TICK " + t, 2, x.rooms(0, t, 1));
                Edge.due("not broken by that", -1, x.broken(0, 1));
                x.gap(0, t, t);
                Edge.due("left freely", 3, x.rooms(1, t, 2));
                Edge.due("the first way that leaves it", 1, Check.way(x, 1, 199, 1, t));
            }
        }
        DoorReader x = Edge.reader(line(0, 0, 6), 1);
        x.pass(0, 0, true, 0);
        Edge.due("nobody comes from b in TICK 0", 0, x.broken(0, 1));
        DoorReader y = Edge.reader(line(0, 4, 6), 1);
        y.pass(0, 0, false, 0);
        y.pass(0, 0, true, 0);
        Edge.knows(y, "not gone ahead of TICK 0", 0, "32222311");
        DoorReader z = Edge.reader(line(0, 4, 6), 1);
        z.pass(0, 0, false, 199);
        z.pass(0, 0, true, 199);
        Edge.knows(z, "not gone behind TICK 199", 192, "13222231");
    }

    private static void oneDoor() {
        Edge.of(Edge.TERMS, "In a TICK the owner stays, or goes through one DOOR from one of its ROOMS to the other,");
        DoorReader x = Edge.reader(CHAIN, 1);
        for (int t = 0; t < 200; t++) {
            Edge.due("stays in " + t, 1, x.rooms(0, t, 0));
        }
        x.gap(0, 10, 10);
        x.gap(1, 10, 10);
        Edge.knows(x, "two doors in a tick", 9, "1333");
        x.gap(1, 11, 11);
        Edge.knows(x, "one door a tick", 9, "1377");
        DoorReader y = Edge.reader(CHAIN, 1);
        y.pass(0, 0, false, 10);
        y.pass(0, 1, false, 10);
        Edge.due("two passes in a tick", 1, y.broken(0, 2));
        DoorReader z = Edge.reader(CHAIN, 1);
        z.pass(0, 0, false, 10);
        z.pass(0, 1, false, 11);
        Edge.due("one pass a tick", -1, z.broken(0, 2));
        Edge.knows(z, "one pass a tick", 9, "124");
        DoorReader in = Edge.reader(CHAIN, 1);
        in.gap(0, 10, 10);
        in.pass(0, 0, true, 10);
        Edge.due("in and out in a tick", 1, in.broken(0, 2));
        DoorReader far = Edge.reader(CHAIN, 1);
        far.gap(1, 0, 199);
        Edge.due("a door of other rooms", 1, far.rooms(0, 199, 1));
        far.gap(0, 100, 100);
        Edge.knows(far, "through both", 99, "137");
        DoorReader back = Edge.reader(CHAIN, 1);
        back.pass(0, 0, false, 10);
        back.pass(0, 0, false, 20);
        Edge.due("not from the room that it leads to", 1, back.broken(0, 2));
    }

    private static void widths() {
        Edge.of(Edge.TERMS, "if the ROOM that is left was come to more than its WIDTH TICKS ahead "
                + "(one come to in TICK s can be left from TICK s + 1 + WIDTH on).");
        for (int wide = 0; wide <= 4; wide++) {
            for (int apart = 1; apart <= 7; apart++) {
                String what = "width " + wide + ", " + apart + " apart, ";
                boolean can = apart > wide;
                for (int kind = 0; kind < 4; kind++) {
                    DoorReader x = Edge.reader(line(0, wide, 0), 1);
                    goes(x, false, 20, kind % 2 == 0);
                    goes(x, true, 20 + apart, kind / 2 == 0);
                    x.sight(0, 1, 20);
                    x.sight(0, 0, 20 + apart);
                    Edge.due(what + "in and out, kind " + kind, can ? 2 : 0, x.rooms(0, 20, x.count(3)));
                    Edge.due(what + "the way, kind " + kind, can ? 1 : -1, Check.way(x, 0, 20, 1, 20));
                }
                DoorReader y = Edge.reader(line(wide, 0, 0), 1);
                y.pass(0, 0, false, 10);
                y.pass(0, 0, true, 20);
                y.pass(0, 0, false, 20 + apart);
                Edge.due(what + "OUTSIDE come to again", can ? -1 : 2, y.broken(0, 3));
            }
        }
    }

    /** By a pass, or by a gap of one tick. */
    private static void goes(DoorReader x, boolean back, int t, boolean byPass) {
        if (byPass) {
            x.pass(0, 0, back, t);
        } else {
            x.gap(0, t, t);
        }
    }

    private static void widthsOfOthers() {
        DoorReader x = Edge.reader(line(0, 4, 0), 1);
        x.pass(0, 0, false, 10);
        x.pass(0, 0, true, 15);
        x.pass(0, 0, false, 16);
        x.pass(0, 0, true, 21);
        Edge.due("the width of the room that is left alone", -1, x.broken(0, 4));
        x.pass(0, 0, false, 22);
        x.pass(0, 0, true, 26);
        Edge.due("counted from when it was come to last", 5, x.broken(0, 6));
        DoorReader y = Edge.reader(line(0, 3, 0), 1);
        y.gap(0, 20, 40);
        y.sight(0, 0, 19);
        y.sight(0, 1, 20);
        Edge.knows(y, "left as soon as can be", 19, "122223");
        Edge.walks(y, 30, 0, 19, "0111100");
        DoorReader z = Edge.reader("room a 0;room b 4;room c 0;door d a b 0;door e b c 0;", 1);
        z.gap(0, 10, 10);
        z.gap(1, 10, 14);
        Edge.knows(z, "not through to c", 9, "1333333");
        z.gap(1, 15, 15);
        Edge.knows(z, "through to c", 14, "37");
    }

    private static void passOrFree() {
        Edge.of(Edge.TERMS, "Going through is by a PASS, or free.");
        DoorReader x = Edge.reader(line(0, 0, 0), 2);
        x.pass(1, 0, false, 10);
        Edge.knows(x, "neither: another card's pass", 9, "11");
        x.pass(0, 0, false, 12);
        Edge.knows(x, "by a pass", 11, "122");
        x.gap(0, 20, 20);
        Edge.knows(x, "free", 19, "233");
        DoorReader y = Edge.reader(line(0, 0, 0), 1);
        y.gap(0, 10, 12);
        y.pass(0, 0, false, 12);
        Edge.knows(y, "free in and out, then by the pass", 9, "13122");
    }

    private static void passInTime() {
        Edge.of(Edge.TERMS,
                "By a PASS of the CARD: that way, in a TICK that is no more than the CLOCK errs by from what was told;");
        for (int errs = 0; errs <= 6; errs++) {
            for (int t = 50 - errs - 2; t <= 50 + errs + 2; t++) {
                DoorReader x = Edge.reader(line(0, 0, errs), 1);
                x.pass(0, 0, false, 50);
                int now = t < 50 - errs ? 1 : t >= 50 + errs ? 2 : 3;
                Edge.due("error " + errs + ", rooms in " + t, now, x.rooms(0, t, 1));
                x.sight(0, 0, t - 1);
                x.sight(0, 1, t);
                boolean can = t >= 50 - errs && t <= 50 + errs;
                Edge.due("error " + errs + ", gone in " + t, can ? 2 : 0, x.rooms(0, t, 3));
            }
            DoorReader x = Edge.reader(line(0, 0, errs), 2);
            x.pass(0, 0, false, 0);
            x.pass(1, 0, false, 199);
            Edge.due("told 0, error " + errs + ", in 0", errs == 0 ? 2 : 3, x.rooms(0, 0, 2));
            Edge.due("told 0, error " + errs + ", at latest", 2, x.rooms(0, errs, 2));
            Edge.due("told 199, error " + errs + ", ahead", 1, x.rooms(1, 198 - errs, 2));
            Edge.due("told 199, error " + errs + ", in 199", 2, x.rooms(1, 199, 2));
        }
        for (int way = 0; way < 2; way++) {
            DoorReader x = Edge.reader(line(0, 0, 0), 1);
            x.gap(0, 30, 30);
            x.pass(0, 0, way == 1, 50);
            Edge.due("that way, from where it leads away", 1 << way, x.rooms(0, 30, 2));
            Edge.due("that way, to where it leads", 2 >> way, x.rooms(0, 50, 2));
        }
    }

    private static void justOnce() {
        Edge.of(Edge.TERMS, "each PASS of the CARD is gone by just once,");
        DoorReader x = Edge.reader(line(0, 0, 0), 1);
        x.gap(0, 0, 199);
        x.pass(0, 0, false, 50);
        Edge.knows(x, "it must be gone by", 48, "31233");
        DoorReader y = Edge.reader("room a 0;room b 0;door d a b 2;door e a b 0;", 1);
        y.pass(0, 0, false, 50);
        y.gap(1, 51, 51);
        Edge.knows(y, "once in, once back", 47, "1333333");
        y.sight(0, 1, 50);
        y.sight(0, 0, 51);
        Edge.knows(y, "not in again", 50, "211");
        y.sight(0, 1, 52);
        Edge.due("a pass is not gone by twice", 0, y.rooms(0, 50, 5));
        y.pass(0, 0, false, 51);
        Edge.due("a second pass is", 2, y.rooms(0, 52, 6));
        DoorReader z = Edge.reader(line(0, 0, 1), 1);
        z.pass(0, 0, false, 50);
        z.pass(0, 0, false, 50);
        Edge.due("like passes are two", 1, z.broken(0, 2));
        z.gap(0, 50, 50);
        Edge.due("with a gap between", -1, z.broken(0, 3));
        Edge.knows(z, "with a gap between", 48, "121222");
    }

    private static void order() {
        Edge.of(Edge.TERMS, "in the order of the TICKS told, of like ones by number.");
        DoorReader x = Edge.reader(line(0, 0, 0), 1);
        x.pass(0, 0, true, 30);
        x.pass(0, 0, false, 20);
        Edge.due("by ticks, not by numbers", -1, x.broken(0, 2));
        Edge.knows(x, "by ticks", 19, "12");
        Edge.knows(x, "by ticks", 29, "21");
        DoorReader y = Edge.reader(line(0, 0, 1), 1);
        y.pass(0, 0, false, 30);
        y.pass(0, 0, true, 30);
        Edge.due("like ticks: in, then out", -1, y.broken(0, 2));
        Edge.knows(y, "like ticks", 28, "1331");
        DoorReader z = Edge.reader(line(0, 0, 1), 1);
        z.pass(0, 0, true, 30);
        z.pass(0, 0, false, 30);
        Edge.due("like ticks: out first", 0, z.broken(0, 2));
        DoorReader w = Edge.reader("room a 0;room b 0;door d a b 5;door e a b 0;", 1);
        w.pass(0, 0, false, 30);
        w.pass(0, 1, true, 28);
        Edge.due("a clock's error changes no order", 1, w.broken(0, 2));
        DoorReader v = Edge.reader("room a 0;room b 0;door d a b 5;door e a b 0;", 1);
        v.pass(0, 1, true, 30);
        v.pass(0, 0, false, 30);
        Edge.due("like ticks of two doors by number", 0, v.broken(0, 2));
        DoorReader u = Edge.reader("room a 0;room b 0;door d a b 5;door e a b 0;", 1);
        u.pass(0, 0, false, 30);
        u.pass(0, 1, true, 30);
        Edge.due("like ticks of two doors in order", -1, u.broken(0, 2));
        Edge.knows(u, "like ticks of two doors", 24, "13333211");
        DoorReader three = Edge.reader(line(0, 0, 1), 1);
        three.pass(0, 0, false, 31);
        three.pass(0, 0, true, 30);
        three.pass(0, 0, false, 30);
        Edge.due("three of them", 1, three.broken(0, 3));
        three.pass(0, 0, false, 29);
        Edge.due("four: the one told last goes first, two ways in can't follow each other", 0, three.broken(0, 4));
    }

    private static void free() {
        Edge.of(Edge.TERMS,
                "Free: in a TICK in a GAP of the DOOR, which is longer at both ends by what the CLOCK errs by.");
        for (int errs = 0; errs <= 6; errs++) {
            String two = "room a 0;room b 0;door d a b " + errs + ";door e a b 0;";
            for (int t : new int[] {50 - errs - 1, 50 - errs, 51, 52 + errs, 52 + errs + 1}) {
                boolean can = t >= 50 - errs && t <= 52 + errs;
                DoorReader x = Edge.reader(two, 1);
                x.gap(0, 50, 52);
                x.sight(0, 0, t - 1);
                x.sight(0, 1, t);
                Edge.due("error " + errs + ", in through in " + t, can ? 2 : 0, x.rooms(0, t, 3));
                DoorReader y = Edge.reader(two, 1);
                y.pass(0, 1, false, 20);
                y.gap(0, 50, 52);
                y.sight(0, 1, t - 1);
                y.sight(0, 0, t);
                Edge.due("error " + errs + ", out through in " + t, can ? 1 : 0, y.rooms(0, t, 4));
            }
            DoorReader x = Edge.reader(two, 2);
            x.gap(0, 0, 0);
            x.sight(0, 0, errs);
            Edge.due("gap of TICK 0, error " + errs + ", behind it", 1, x.rooms(0, 199, 2));
            Edge.due("gap of TICK 0, error " + errs + ", in TICK 0", 3, x.rooms(1, 0, 2));
            DoorReader y = Edge.reader(two, 1);
            y.gap(0, 199, 199);
            Edge.due("gap of TICK 199, error " + errs + ", ahead of it", 1, y.rooms(0, 198 - errs, 1));
            Edge.due("gap of TICK 199, error " + errs + ", its first tick", 3, y.rooms(0, 199 - errs, 1));
            Edge.due("gap of TICK 199, error " + errs + ", its last tick", 3, y.rooms(0, 199, 1));
        }
        DoorReader x = Edge.reader("room a 0;room b 0;room c 0;door d a b 6;door e a c 0;", 1);
        x.gap(1, 50, 50);
        Edge.knows(x, "the other door's clock says nothing, nor is that door open", 44, "111111555");
        x.gap(1, 53, 54);
        x.sight(0, 0, 52);
        x.sight(0, 2, 54);
        Edge.due("two gaps of a door", 5, x.rooms(0, 53, 4));
    }

    private static void seen() {
        Edge.of(Edge.TERMS, "In the TICK of each SIGHT of the CARD the owner is in that ROOM.");
        DoorReader x = Edge.reader(line(0, 0, 0), 2);
        x.gap(0, 0, 199);
        Edge.knows(x, "not seen", 0, "333");
        x.sight(0, 1, 0);
        x.sight(0, 0, 199);
        x.sight(0, 1, 100);
        x.sight(0, 1, 100);
        Edge.knows(x, "seen in TICK 0", 0, "233");
        Edge.knows(x, "seen in TICK 100", 99, "323");
        Edge.knows(x, "seen in TICK 199", 197, "331");
        Edge.due("the other card", 3, x.rooms(1, 100, 5));
        x.sight(0, 0, 100);
        Edge.knows(x, "seen in two rooms", 99, "000");
        Edge.due("the other card still", 3, x.rooms(1, 100, 6));
        DoorReader y = Edge.reader(line(0, 0, 0), 1);
        y.pass(0, 0, false, 10);
        y.sight(0, 1, 10);
        Edge.due("as the tick ends it has gone", 2, y.rooms(0, 10, 2));
        y.sight(0, 0, 10);
        Edge.due("and is not where it was", 0, y.rooms(0, 10, 3));
    }

    private static void can() {
        Edge.of(Edge.TERMS, "A CARD CAN be in a ROOM in a TICK, if some WAY has it there.");
        DoorReader x = Edge.reader(line(0, 0, 0), 1);
        x.gap(0, 10, 10);
        Edge.knows(x, "some way stays, some goes", 9, "133");
        x.pass(0, 0, false, 20);
        Edge.knows(x, "a way that could not be ended is none", 9, "111");
        Edge.knows(x, "a way that could not be ended is none", 19, "12");
        DoorReader y = Edge.reader(CHAIN, 1);
        y.gap(0, 10, 10);
        y.gap(1, 20, 20);
        y.gap(1, 22, 22);
        y.sight(0, 1, 30);
        Edge.knows(y, "must be in b by then", 9, "122");
        Edge.knows(y, "may go to c and back", 19, "26622");
        Edge.due("not outside", -1, Check.way(y, 0, 15, 0, 15));
        Edge.due("in c", 2, Check.way(y, 0, 21, 2, 20));
    }

    private static void broken() {
        Edge.of(Edge.TERMS, "IS BROKEN: there is no WAY by the PASSES and GAPS alone (no SIGHTS):");
        DoorReader x = Edge.reader(line(0, 0, 0), 1);
        x.sight(0, 1, 0);
        x.sight(0, 0, 0);
        Edge.due("sights against each other", -1, x.broken(0, 2));
        Edge.due("though there is no way", 0, x.rooms(0, 0, 2));
        x.pass(0, 0, false, 10);
        x.sight(0, 0, 11);
        Edge.due("a sight against a pass", -1, x.broken(0, 4));
        DoorReader y = Edge.reader(line(0, 0, 0), 1);
        y.sight(0, 1, 9);
        y.pass(0, 0, true, 10);
        Edge.due("a sight helps nothing", 1, y.broken(0, 2));
        y.gap(0, 9, 9);
        Edge.due("a gap does", -1, y.broken(0, 3));
        Edge.due("not ahead of it", 1, y.broken(0, 2));
    }

    private static void brokenAt() {
        Edge.of(Edge.TERMS, "of its PASSES in order the least number of first ones with which there is none such: "
                + "the last of these. (With fewer of its PASSES there would be a WAY.)");
        DoorReader x = Edge.reader(CHAIN, 2);
        x.pass(0, 1, true, 90);
        Edge.due("one pass, which can't be", 0, x.broken(0, 1));
        x.pass(0, 0, false, 10);
        Edge.due("the second in order", 0, x.broken(0, 2));
        x.pass(0, 0, false, 50);
        Edge.due("the second in order, told last", 2, x.broken(0, 3));
        x.pass(0, 0, true, 40);
        Edge.due("which is mended", 0, x.broken(0, 4));
        x.pass(0, 1, false, 80);
        Edge.due("and so is the last", -1, x.broken(0, 5));
        x.pass(1, 0, true, 5);
        Edge.due("another card's break", -1, x.broken(0, 6));
        Edge.due("that card's break", 5, x.broken(1, 6));
        x.pass(0, 0, true, 5);
        Edge.due("the first in order, told last", 6, x.broken(0, 7));
        int[] behind = {-1, 0, 0, 2, 0, -1, -1, 6};
        for (int n = 0; n < behind.length; n++) {
            Edge.due("broken(0, " + n + ")", behind[n], x.broken(0, n));
        }
        DoorReader y = Edge.reader(CHAIN, 1);
        for (int i = 0; i < 11; i++) {
            y.pass(0, 0, i % 2 == 1, 10 + 3 * i);
        }
        Edge.due("eleven passes", -1, y.broken(0, 11));
        y.pass(0, 0, false, 100);
        Edge.due("the twelfth", 11, y.broken(0, 12));
        Edge.due("eleven of them", -1, y.broken(0, 11));
    }

    private static void rights() {
        Edge.of(Edge.TERMS, "RIGHTS, at most 100: of a CARD, for a ROOM, from a TICK to a TICK: given or taken;");
        DoorReader x = Edge.reader(CHAIN, 2);
        x.right(0, 1, 10, 12, true);
        for (int t = 8; t <= 14; t++) {
            Edge.due("given, in " + t, t >= 10 && t <= 12 ? 1 : 0, x.allowed(0, 1, t));
            Edge.due("of another card, in " + t, 0, x.allowed(1, 1, t));
            Edge.due("for another room, in " + t, 0, x.allowed(0, 2, t));
        }
        x.right(0, 0, 20, 22, false);
        for (int t = 18; t <= 24; t++) {
            Edge.due("taken, in " + t, t >= 20 && t <= 22 ? 0 : 1, x.allowed(0, 0, t));
        }
        x.right(0, 1, 199, 199, true);
        x.right(0, 1, 0, 0, true);
        Edge.due("one tick, 199", 1, x.allowed(0, 1, 199));
        Edge.due("one tick, 0", 1, x.allowed(0, 1, 0));
        for (int i = 4; i < 100; i++) {
            Edge.due("right " + i, i, x.right(1, 1, i, i, true));
        }
        Edge.due("a 101st", -1, x.right(1, 1, 100, 100, true));
        Edge.due("which changes nothing", 0, x.allowed(1, 1, 100));
        Edge.due("the 100th", 1, x.allowed(1, 1, 99));

        Edge.of(Edge.TERMS, "in a TICK the latest told that has it in it decides;");
        DoorReader y = Edge.reader(CHAIN, 1);
        y.right(0, 1, 10, 30, true);
        y.right(0, 1, 15, 25, false);
        y.right(0, 1, 20, 20, true);
        y.right(0, 1, 5, 10, false);
        y.right(0, 2, 0, 199, true);
        int[][] want = {{4, 0}, {5, 0}, {10, 0}, {11, 1}, {14, 1}, {15, 0}, {19, 0}, {20, 1}, {21, 0}, {25, 0}, {26, 1},
            {30, 1}, {31, 0}};
        for (int[] w : want) {
            Edge.due("allowed(0, 1, " + w[0] + ")", w[1], y.allowed(0, 1, w[0]));
        }
        y.right(0, 0, 0, 199, false);
        y.right(0, 0, 7, 7, true);
        Edge.due("OUTSIDE taken", 0, y.allowed(0, 0, 6));
        Edge.due("OUTSIDE given again", 1, y.allowed(0, 0, 7));

        Edge.of(Edge.TERMS, "without one only OUTSIDE is allowed.");
        DoorReader z = Edge.reader(Edge.rooms(8), 10);
        for (int room = 0; room < 8; room++) {
            Edge.due("allowed(0, " + room + ", 0)", room == 0 ? 1 : 0, z.allowed(0, room, 0));
            Edge.due("allowed(9, " + room + ", 199)", room == 0 ? 1 : 0, z.allowed(9, room, 199));
        }

        Edge.of(Edge.TERMS, "(RIGHTS are no LOGS.)");
        DoorReader w = Edge.reader(CHAIN, 1);
        w.right(0, 1, 0, 199, true);
        w.right(0, 2, 0, 199, true);
        Edge.due("count(3)", 0, w.count(3));
        Edge.due("log(0, 0)", -1, w.log(0, 0));
        Edge.due("rooms(0, 0, 1)", -1, w.rooms(0, 0, 1));
        Edge.due("rooms(0, 100, 0)", 1, w.rooms(0, 100, 0));
        Edge.due("the first log", 0, w.gap(0, 0, 0));
        Edge.due("the third right", 2, w.right(0, 1, 0, 0, false));
        for (int i = 1; i < 100; i++) {
            w.gap(0, i, i);
        }
        Edge.due("a right beside 100 logs", 3, w.right(0, 1, 0, 0, false));
    }

    private static void constant() {
        Edge.of(Edge.TERMS, "The constants: `NONE = -1`: There is none.");
        Edge.due("NONE", -1, DoorReader.NONE);
    }

    private static void longUse() {
        Edge.of(Edge.USE, "An object is used for at most 512 calls after it has been made;");
        DoorReader x = new DoorReader();
        x.feed(0x726F6F6D, 0x20612030, 0x3B726F6F, 0x6D206220, 0x303B6420);
        x.feed(0x20202020, 0x20202020, 0x20202020, 0x20202020, 0x20202020);
        x.end(18);
        x.building();
        x.card();
        for (int call = 6; call < 512; call++) {
            Edge.due("call " + call, 1, x.rooms(0, call % 200, 0));
        }
        Edge.due("the 512th call", 1, x.rooms(0, 199, 0));
        DoorReader y = new DoorReader();
        for (int call = 1; call <= 512; call++) {
            Edge.due("building() number " + call, -7, y.building());
        }
    }
}
