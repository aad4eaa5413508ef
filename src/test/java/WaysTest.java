/** Promises 11 to 15: rooms, way, broken, many, inside. */
public final class WaysTest {
    public static void main(String[] args) {
        clocks();
        widths();
        order();
        gaps();
        sights();
        edgesOfTime();
        passOrFree();
        firstWays();
        byPassOrFreeOnTheFirstWay();
        askedAgain();
        otherBuilding();
        largest();
        breaks();
        counts();
        wrongInputs();
        Check.finish("WaysTest");
    }

    private static void clocks() {
        DoorReader x = Check.with("room a 0;room b 0;door d a b 3;");
        x.card();
        x.pass(0, 0, false, 50);
        Check.due("ahead of the earliest", 1, x.rooms(0, 46, 1));
        Check.due("the earliest", 3, x.rooms(0, 47, 1));
        Check.due("ahead of the latest", 3, x.rooms(0, 52, 1));
        Check.due("the latest", 2, x.rooms(0, 53, 1));
        Check.due("as known behind none", 1, x.rooms(0, 53, 0));
    }

    private static void widths() {
        for (int width = 0; width <= 4; width++) {
            for (int apart = 1; apart <= 7; apart++) {
                DoorReader x = Check.with("room a 0;room b " + width + ";door d a b 0;");
                x.card();
                x.pass(0, 0, false, 20);
                x.pass(0, 0, true, 20 + apart);
                String what = "width " + width + ", " + apart + " apart";
                Check.due(what + ": broken", apart > width ? -1 : 1, x.broken(0, 2));
                Check.due(what + ": rooms", apart > width ? 2 : 0, x.rooms(0, 20, 2));
            }
        }
        DoorReader x = Check.with("room a 4;room b 0;door d a b 0;");
        x.card();
        Check.due("pass", 0, x.pass(0, 0, false, 0));
        Check.due("outside since long: can be left in tick 0", 2, x.rooms(0, 0, 1));
        x.pass(0, 0, true, 1);
        x.pass(0, 0, false, 5);
        Check.due("outside is as wide as told", 2, x.broken(0, 3));
        x.gap(0, 6, 6);
        Check.due("of no help", 2, x.broken(0, 4));
    }

    private static void order() {
        DoorReader x = Check.with("room a 0;room b 0;door d a b 0;");
        x.card();
        x.pass(0, 0, true, 30);
        Check.due("back first", 0, x.broken(0, 1));
        x.pass(0, 0, false, 20);
        Check.due("by ticks, not by numbers", -1, x.broken(0, 2));
        Check.due("in between", 2, x.rooms(0, 25, 2));
        DoorReader y = Check.with("room a 0;room b 0;door d a b 1;");
        y.card();
        y.pass(0, 0, false, 30);
        y.pass(0, 0, true, 30);
        Check.due("like ticks by number", -1, y.broken(0, 2));
        Check.due("in 29 it may be in b", 3, y.rooms(0, 29, 2));
        Check.due("in 30 too", 3, y.rooms(0, 30, 2));
        Check.due("in 31 it is back", 1, y.rooms(0, 31, 2));
        DoorReader z = Check.with("room a 0;room b 0;door d a b 1;");
        z.card();
        z.pass(0, 0, true, 30);
        z.pass(0, 0, false, 30);
        Check.due("like ticks the other way", 0, z.broken(0, 2));
        DoorReader w = Check.with("room a 0;room b 0;door d a b 5;door e a b 0;");
        w.card();
        w.pass(0, 0, false, 30);
        w.pass(0, 1, true, 28);
        Check.due("told ticks rule, whatever a clock allows", 1, w.broken(0, 2));
    }

    private static void gaps() {
        DoorReader x = Check.with("room a 0;room b 2;room c 0;door d a b 2;door e b c 0;");
        x.card();
        x.gap(0, 10, 11);
        Check.due("ahead", 1, x.rooms(0, 7, 1));
        Check.due("longer in front", 3, x.rooms(0, 8, 1));
        Check.due("behind", 3, x.rooms(0, 20, 1));
        x.gap(1, 14, 14);
        Check.due("into c", 7, x.rooms(0, 14, 2));
        Check.due("not ahead", 3, x.rooms(0, 13, 2));
        Check.due("as known ahead of it", 3, x.rooms(0, 14, 1));
        DoorReader y = Check.with("room a 0;room b 2;door d a b 0;");
        y.card();
        y.gap(0, 10, 12);
        y.pass(0, 0, true, 13);
        Check.due("free in, by a pass out, not too soon", 2, y.rooms(0, 10, 2));
        Check.due("and then outside", 1, y.rooms(0, 13, 2));
        DoorReader z = Check.with("room a 0;room b 3;door d a b 0;");
        z.card();
        z.gap(0, 10, 12);
        z.pass(0, 0, true, 13);
        Check.due("too wide for that", 0, z.rooms(0, 10, 2));
        Check.due("so broken", 1, z.broken(0, 2));
        DoorReader w = Check.with("room a 0;room b 0;door d a b 6;");
        w.card();
        w.gap(0, 190, 193);
        w.sight(0, 1, 199);
        Check.due("the last end of a gap", 3, w.rooms(0, 198, 2));
        Check.due("and the first", 3, w.rooms(0, 184, 2));
        Check.due("ahead of it", 1, w.rooms(0, 183, 2));
    }

    private static void sights() {
        DoorReader x = Check.with(Check.SMALL);
        x.card();
        x.card();
        x.pass(0, 0, false, 10);
        x.sight(0, 0, 10);
        Check.due("not gone yet as the tick ends", 1, x.rooms(0, 10, 2));
        Check.due("gone or not", 3, x.rooms(0, 11, 2));
        Check.due("known ahead of the sight", 3, x.rooms(0, 10, 1));
        x.sight(0, 1, 9);
        Check.due("two sights that can't be", 0, x.rooms(0, 100, 3));
        Check.due("not broken by sights", -1, x.broken(0, 3));
        Check.due("the other card is not touched", 1, x.rooms(1, 10, 3));
        x.sight(1, 1, 0);
        Check.due("a sight in tick 0 of a room nobody can be in", 0, x.rooms(1, 0, 4));
        DoorReader y = Check.with(Check.SMALL);
        y.card();
        y.sight(0, 0, 199);
        y.pass(0, 0, false, 198);
        Check.due("seen outside at the end", 0, y.rooms(0, 0, 2));
        Check.due("known ahead of the pass", 1, y.rooms(0, 0, 1));
    }

    private static void edgesOfTime() {
        DoorReader x = Check.with("room a 0;room b 0;door d a b 6;");
        x.card();
        x.pass(0, 0, false, 0);
        x.pass(0, 0, true, 199);
        Check.due("from tick 0 on", 3, x.rooms(0, 0, 2));
        Check.due("at latest", 2, x.rooms(0, 6, 2));
        Check.due("ahead of the end", 2, x.rooms(0, 192, 2));
        Check.due("near the end", 3, x.rooms(0, 193, 2));
        Check.due("a way ends with tick 199", 1, x.rooms(0, 199, 2));
    }

    private static void passOrFree() {
        DoorReader x = Check.with("room a 0;room b 0;door d a b 0;");
        x.card();
        x.gap(0, 10, 12);
        x.pass(0, 0, false, 12);
        x.sight(0, 1, 10);
        Check.due("free in 10, back in 11, by the pass in 12", 1, x.rooms(0, 11, 3));
        Check.due("by the pass", 2, x.rooms(0, 12, 3));
        DoorReader y = Check.with("room a 0;room b 0;door d a b 1;");
        y.card();
        y.pass(0, 0, false, 10);
        y.pass(0, 0, false, 11);
        y.gap(0, 20, 20);
        Check.due("each pass just once", 0, y.rooms(0, 0, 3));
        Check.due("broken at the second", 1, y.broken(0, 3));
    }

    private static void firstWays() {
        DoorReader x = Check.with("room a 0;room b 0;room c 0;door d a b 1;door e b c 1;door f c a 1;");
        x.card();
        x.gap(0, 10, 10);
        x.gap(1, 12, 12);
        x.gap(2, 14, 14);
        walk(x, 100, 0, 9, "0000000");
        walk(x, 100, 1, 9, "0011111");
        walk(x, 100, 2, 9, "0000002");
        walk(x, 12, 2, 9, "0012000");
        walk(x, 13, 2, 9, "0000200");
        Check.due("none such", -1, Check.way(x, 0, 10, 2, 0));
        Check.due("none such, whatever is asked", -1, Check.way(x, 0, 10, 2, 199));
        x.sight(0, 2, 12);
        walk(x, 100, 0, 9, "0012000");
        Check.due("none behind the sight", -1, Check.way(x, 0, 12, 0, 0));
        DoorReader y = Check.with("room a 0;room b 0;room c 0;door d a c 0;door e a b 0;");
        y.card();
        y.gap(0, 5, 5);
        y.gap(1, 5, 9);
        y.sight(0, 1, 9);
        Check.due("the lesser room as long as can be", 0, Check.way(y, 0, 100, 1, 8));
        Check.due("then where it must be", 1, Check.way(y, 0, 100, 1, 9));
    }

    private static void walk(DoorReader x, int t, int room, int from, String want) {
        for (int i = 0; i < want.length(); i++) {
            Check.due("way(0, " + t + ", " + room + ", " + (from + i) + ")", want.charAt(i) - '0',
                    Check.way(x, 0, t, room, from + i));
        }
    }

    private static void byPassOrFreeOnTheFirstWay() {
        DoorReader x = Check.with("room a 0;room b 0;door d a b 0;door e a b 2;");
        x.card();
        x.gap(0, 10, 11);
        x.pass(0, 1, false, 11);
        x.sight(0, 1, 10);
        x.sight(0, 0, 11);
        x.sight(0, 1, 12);
        walk(x, 100, 1, 9, "01011");
        DoorReader y = Check.with("room a 0;room b 0;door d a b 0;door e a b 2;");
        y.card();
        y.gap(0, 10, 11);
        y.pass(0, 1, false, 12);
        y.sight(0, 1, 10);
        y.sight(0, 1, 14);
        walk(y, 100, 1, 9, "0100011");
        walk(y, 11, 1, 9, "0111111");
        DoorReader z = Check.with("room a 4;room b 4;door d a b 0;");
        z.card();
        z.pass(0, 0, false, 0);
        z.gap(0, 1, 5);
        walk(z, 0, 1, 0, "1111100000");
        walk(z, 199, 1, 0, "1111111111");
    }

    /** What was asked ahead must not be answered again when a card, tick, room or the logs are others. */
    private static void askedAgain() {
        DoorReader x = Check.with("room a 0;room b 0;door d a b 0;");
        x.card();
        x.card();
        x.gap(0, 5, 9);
        x.pass(1, 0, false, 20);
        Check.due("card 0", 0, Check.way(x, 0, 30, 0, 21));
        Check.due("card 1", -1, Check.way(x, 1, 30, 0, 21));
        Check.due("card 1 in b", 1, Check.way(x, 1, 30, 1, 21));
        Check.due("card 1 in b ahead", 0, Check.way(x, 1, 30, 1, 10));
        Check.due("card 0 in b ahead", 1, Check.way(x, 0, 30, 1, 10));
        Check.due("card 0 in a", 0, Check.way(x, 0, 30, 0, 9));
        Check.due("card 0 in b then", 1, Check.way(x, 0, 30, 1, 9));
        Check.due("card 0 in b in 6", 0, Check.way(x, 0, 6, 1, 5));
        Check.due("card 0 in b in 6, then", 0, Check.way(x, 0, 6, 1, 7));
        Check.due("card 0 in b in 0", -1, Check.way(x, 0, 0, 1, 7));
        Check.due("card 0 in a in 0", 0, Check.way(x, 0, 0, 0, 7));
        Check.due("card 0 outside at the end", 0, Check.way(x, 0, 199, 0, 7));
        x.sight(0, 1, 7);
        Check.due("with the sight", 1, Check.way(x, 0, 199, 0, 7));
        Check.due("rooms with the sight", 2, x.rooms(0, 7, 3));
        Check.due("rooms without", 3, x.rooms(0, 7, 2));
        Check.due("rooms with it again", 2, x.rooms(0, 7, 3));
        Check.due("rooms without gaps", 1, x.rooms(0, 7, 0));
    }

    private static void otherBuilding() {
        DoorReader x = Check.with("room a 0;room b 0;door d a b 0;");
        x.card();
        Check.due("the very first way", 0, Check.way(x, 0, 0, 0, 0));
        x.gap(0, 5, 5);
        Check.due("first building", 3, x.rooms(0, 5, 1));
        Check.due("first building's way", 1, Check.way(x, 0, 50, 1, 5));
        Check.build(x, "room a 0;room b 0;door d a b 0;");
        x.card();
        x.gap(0, 9, 9);
        Check.due("second building's way", 0, Check.way(x, 0, 50, 1, 5));
        Check.due("second building", 1, x.rooms(0, 5, 1));
        Check.due("second building in 9", 3, x.rooms(0, 9, 1));
        Check.due("second building's way in 9", 1, Check.way(x, 0, 50, 1, 9));
        Check.build(x, "room a 0;room b 0;door d a b 0;");
        x.card();
        Check.due("third building's way", -1, Check.way(x, 0, 50, 1, 9));
        Check.due("third building's way outside", 0, Check.way(x, 0, 50, 0, 9));
    }

    private static void largest() {
        StringBuilder text = new StringBuilder();
        for (char c = 'a'; c <= 'h'; c++) {
            text.append("room ").append(c).append(" 4;");
        }
        for (char c = 'a'; c <= 'h'; c++) {
            text.append("door d").append(c).append(' ').append(c).append(' ').append(c == 'h' ? 'a' : (char) (c + 1))
                    .append(" 6;");
        }
        text.append("door y a h 0;door z a h 0;");
        DoorReader x = Check.with(text.toString());
        for (int card = 0; card < 10; card++) {
            x.card();
        }
        for (int d = 0; d < 8; d++) {
            x.gap(d, 0, 199);
        }
        Check.due("one step", 1 | 2 | 128, x.rooms(9, 4, 8));
        Check.due("two steps", 1 | 2 | 4 | 64 | 128, x.rooms(9, 5, 8));
        Check.due("everywhere", 255, x.rooms(9, 199, 8));
        x.sight(9, 7, 0);
        Check.due("only come to", 128, x.rooms(9, 4, 9));
        Check.due("gone on", 1 | 64 | 128, x.rooms(9, 5, 9));
        Check.due("many", 9, x.many(0, 4, 9, 1));
        Check.due("inside for certain", 1, x.inside(4, 9, 0));
        Check.due("inside perhaps", 1023, x.inside(4, 9, 2));
        for (int i = 0; i < 12; i++) {
            x.pass(0, i % 8, false, 16 * i);
        }
        Check.due("twelve passes", -1, x.broken(0, 21));
        Check.due("at the end", 255, x.rooms(0, 199, 21));
        Check.due("without gaps a chain", -1, x.broken(0, 20));
        Check.due("the first way ends outside", 0, Check.way(x, 0, 199, 0, 199));
    }

    private static void breaks() {
        DoorReader x = Check.with(Check.SMALL);
        x.card();
        Check.due("without passes", -1, x.broken(0, 0));
        x.pass(0, 1, false, 60);
        Check.due("from where it is not", 0, x.broken(0, 1));
        x.pass(0, 1, false, 50);
        Check.due("the first in order that can't be", 1, x.broken(0, 2));
        x.gap(0, 30, 30);
        Check.due("with the gap the first goes, the second not", 0, x.broken(0, 3));
        x.gap(1, 55, 55);
        Check.due("with both gaps", -1, x.broken(0, 4));
        Check.due("as known behind 3", 0, x.broken(0, 3));
        Check.due("as known behind 2", 1, x.broken(0, 2));
        Check.due("as known behind 1", 0, x.broken(0, 1));
        Check.due("as known behind 0", -1, x.broken(0, 0));
    }

    private static void counts() {
        DoorReader x = Check.with(Check.SMALL);
        for (int i = 0; i < 4; i++) {
            x.card();
        }
        x.pass(1, 0, false, 10);
        x.pass(2, 0, false, 10);
        x.pass(2, 1, false, 13);
        x.pass(3, 1, false, 10);
        int[][] many = {{0, 12, 4, 0, 1}, {0, 10, 4, 0, 1}, {0, 10, 4, 1, 3}, {1, 10, 4, 0, 0}, {1, 10, 4, 1, 2},
            {1, 12, 4, 0, 2}, {2, 13, 4, 0, 1}, {2, 13, 4, 1, 1}, {0, 13, 0, 0, 4}, {0, 13, 0, 1, 4},
            {0, 13, 1, 0, 3}, {0, 13, 1, 1, 3}};
        for (int[] m : many) {
            Check.due("many(" + m[0] + ", " + m[1] + ", " + m[2] + ", " + m[3] + ")", m[4],
                    x.many(m[0], m[1], m[2], m[3]));
        }
        int[][] inside = {{7, 4, 0, 0}, {7, 4, 1, 0}, {7, 4, 2, 0}, {10, 4, 0, 0}, {10, 4, 1, 2}, {10, 4, 2, 6},
            {11, 4, 0, 1}, {11, 4, 1, 2}, {12, 4, 0, 2}, {12, 4, 2, 6}, {12, 1, 2, 2}, {12, 0, 1, 0}};
        for (int[] m : inside) {
            Check.due("inside(" + m[0] + ", " + m[1] + ", " + m[2] + ")", m[3], x.inside(m[0], m[1], m[2]));
        }
    }

    private static void wrongInputs() {
        DoorReader x = Check.with(Check.SMALL);
        x.card();
        x.pass(0, 0, false, 10);
        int[] wrong = {-1, 200, Integer.MIN_VALUE, Integer.MAX_VALUE};
        for (int w : wrong) {
            Check.due("rooms of card " + w, -1, x.rooms(w, 0, 0));
            Check.due("rooms in tick " + w, -1, x.rooms(0, w, 0));
            Check.due("rooms behind " + w, -1, x.rooms(0, 0, w));
            Check.due("way of card " + w, -9, Check.way(x, w, 0, 0, 0));
            Check.due("way in tick " + w, -9, Check.way(x, 0, w, 0, 0));
            Check.due("way by room " + w, -9, Check.way(x, 0, 0, w, 0));
            Check.due("way asked for tick " + w, -9, Check.way(x, 0, 0, 0, w));
            Check.due("broken card " + w, -1, x.broken(w, 0));
            Check.due("broken behind " + w, -1, x.broken(0, w));
            Check.due("many in room " + w, -1, x.many(w, 0, 0, 0));
            Check.due("many in tick " + w, -1, x.many(0, w, 0, 0));
            Check.due("many behind " + w, -1, x.many(0, 0, w, 0));
            Check.due("many, what " + w, -1, x.many(0, 0, 0, w));
            Check.due("inside in tick " + w, -1, x.inside(w, 0, 0));
            Check.due("inside behind " + w, -1, x.inside(0, w, 0));
            Check.due("inside, what " + w, -1, x.inside(0, 0, w));
        }
        Check.due("rooms of card 1", -1, x.rooms(1, 0, 0));
        Check.due("rooms behind 2", -1, x.rooms(0, 0, 2));
        Check.due("way by room 3", -9, Check.way(x, 0, 0, 3, 0));
        Check.due("way of card 1", -9, Check.way(x, 1, 0, 0, 0));
        Check.due("no way, but no such tick either", -9, Check.way(x, 0, 0, 2, 200));
        Check.due("many, what 2", -1, x.many(0, 0, 0, 2));
        Check.due("many in room 3", -1, x.many(3, 0, 0, 0));
        Check.due("inside, what 3", -1, x.inside(0, 0, 3));
    }
}
