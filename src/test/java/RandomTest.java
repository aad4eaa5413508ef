import java.util.ArrayList;
import java.util.List;
import java.util.Random;
import java.util.TreeSet;

/** All promises: runs of 512 random calls on the class and on the model, whose answers must be alike. */
public final class RandomTest {
    private static final int RUNS = 500;
    private static final int CALLS = 512;
    /** As many calls as one step of a run takes at most: a building of 600 bytes with a card. */
    private static final int STEP = 36;

    private final Random random;
    private final DoorReader x = new DoorReader();
    private final Model m = new Model();
    private final String run;
    private final boolean calm;
    private int calls = 0;

    private RandomTest(long seed) {
        random = new Random(seed);
        run = "run " + seed + ", ";
        calm = seed % 2 == 0;
    }

    public static void main(String[] args) {
        long from = args.length > 0 ? Long.parseLong(args[0]) : 0;
        long runs = args.length > 1 ? Long.parseLong(args[1]) : RUNS;
        for (long seed = from; seed < from + runs; seed++) {
            new RandomTest(seed).play();
        }
        for (int seed = 0; seed < 3000; seed++) {
            randomText(new Random(seed));
        }
        for (int seed = 0; seed < 300; seed++) {
            allWays(new Random(seed));
        }
        Check.finish("RandomTest");
    }

    private static int below(Random random, int n) {
        return random.nextInt(n);
    }

    private int below(int n) {
        return random.nextInt(n);
    }

    private void due(String call, int want, int got) {
        calls++;
        Check.due(run + "call " + calls + ": " + call, want, got);
    }

    // ---- buildings

    private static String building(Random random) {
        int rooms = 2 + below(random, below(random, 3) == 0 ? 7 : 3);
        int doors = 1 + below(random, below(random, 3) == 0 ? 10 : 4);
        int wide = below(random, 2) == 0 ? 2 : 5;
        int errs = below(random, 2) == 0 ? 3 : 7;
        StringBuilder text = new StringBuilder();
        for (int r = 0; r < rooms; r++) {
            text.append("room ").append((char) ('a' + r)).append(' ').append(below(random, wide)).append(';');
        }
        for (int d = 0; d < doors; d++) {
            int a = d + 1 < rooms && below(random, 3) != 0 ? d : below(random, rooms);
            int b = (a + (below(random, 2) == 0 ? 1 : 1 + below(random, rooms - 1))) % rooms;
            text.append("door ").append((char) ('m' + d)).append(' ').append((char) ('a' + a)).append(' ')
                    .append((char) ('a' + b)).append(below(random, errs)).append("; \n".substring(0, 1 + below(random, 2)));
        }
        return text.toString();
    }

    /** A building's text with some bytes or tokens changed, so that faults of all kinds come. */
    private static String spoiled(Random random) {
        String[] bits = {"room", "door", "a", "b", "m", ";", "0", "5", "7", "00004", "12345", " ", "\n", "\t", "!",
            "abcdefgh", "abcdefghi", "roomx", "room a 0;", "door z a b 1;", "x", "room z 4;", "" + (char) 200};
        StringBuilder text = new StringBuilder(building(random));
        for (int i = below(random, 3); i > 0; i--) {
            int at = below(random, text.length());
            if (below(random, 2) == 0) {
                text.delete(at, Math.min(text.length(), at + 1 + below(random, 6)));
            }
            text.insert(Math.min(at, text.length()), bits[below(random, bits.length)]);
        }
        if (below(random, 4) == 0) {
            text.setLength(below(random, text.length() + 1));
        }
        if (below(random, 6) == 0) {
            for (char c = 'A'; c < 'A' + 9; c++) {
                text.append("room q").append(Character.toLowerCase(c)).append(" 0;");
            }
        }
        text.setLength(Math.min(text.length(), 600));
        return text.toString();
    }

    private static void randomText(Random random) {
        String text = spoiled(random);
        DoorReader x = new DoorReader();
        Model m = new Model();
        Check.feed(x, text);
        m.tape.append(text);
        Check.due("building of " + text, m.building(), x.building());
        Check.due("place in " + text, m.place, x.place());
        Check.due("rooms of " + text, m.count(0), x.count(0));
        Check.due("doors of " + text, m.count(1), x.count(1));
        for (int i = 0; i < 10; i++) {
            Check.due("wide(" + i + ") of " + text, m.wide(i), x.wide(i));
            for (int what = 0; what < 3; what++) {
                Check.due("door(" + i + ", " + what + ") of " + text, m.door(i, what), x.door(i, what));
            }
        }
    }

    // ---- runs of calls

    private void play() {
        build(building(random));
        int cards = 1 + below(below(3) == 0 ? 10 : 3);
        for (int i = 0; i < cards; i++) {
            due("card()", m.card(), x.card());
        }
        while (calls <= CALLS - STEP) {
            if (below(3) == 0) {
                tell();
            } else {
                ask();
            }
        }
    }

    private void build(String text) {
        calls += Check.feed(x, text);
        m.tape.append(text);
        due("building()", m.building(), x.building());
        due("place()", m.place, x.place());
    }

    /** Mostly a number below n, at times one that is not. */
    private int about(int n) {
        int[] wild = {-1, n, n + 1, 200, Integer.MIN_VALUE, Integer.MAX_VALUE};
        return n > 0 && below(40) != 0 ? below(n) : wild[below(wild.length)];
    }

    private int clock() {
        return calm && below(4) != 0 ? below(60) : about(200);
    }

    private void tell() {
        int card = about(m.cards);
        int door = about(m.doors.size());
        int room = about(m.widths.size());
        int t = clock();
        boolean yes = below(2) == 0;
        switch (below(18)) {
            case 0: case 1: case 2: case 3: case 4: case 5:
                due("pass(" + card + ", " + door + ", " + yes + ", " + t + ")", m.pass(card, door, yes, t),
                        x.pass(card, door, yes, t));
                break;
            case 6: case 7: case 8:
                goodPass();
                break;
            case 9: case 10: case 11:
                int to = below(3) == 0 ? clock() : Math.min(199, Math.abs(t % 200) + below(5));
                due("gap(" + door + ", " + t + ", " + to + ")", m.gap(door, t, to), x.gap(door, t, to));
                break;
            case 12: case 13:
                due("sight(" + card + ", " + room + ", " + t + ")", m.sight(card, room, t), x.sight(card, room, t));
                break;
            case 14: case 15:
                int until = clock();
                due("right(" + card + ", " + room + ", " + t + ", " + until + ", " + yes + ")",
                        m.right(card, room, t, until, yes), x.right(card, room, t, until, yes));
                break;
            case 16:
                due("card()", m.card(), x.card());
                break;
            default:
                tellTape();
        }
    }

    /** A pass or sight that goes with what is known, so that long ways come too. */
    private void goodPass() {
        int n = m.logs.size();
        if (m.cards == 0) {
            return;
        }
        int card = below(m.cards);
        int last = 0;
        for (int k : m.passes(card, n)) {
            last = m.logs.get(k)[3];
        }
        int t = Math.min(199, last + 1 + below(12));
        int can = m.rooms(card, t, n);
        List<int[]> fit = new ArrayList<>();
        for (int d = 0; d < m.doors.size(); d++) {
            for (int back = 0; back < 2; back++) {
                if ((can >> m.doors.get(d)[back] & 1) == 1) {
                    fit.add(new int[] {d, back});
                }
            }
        }
        if (below(5) == 0 && can > 0) {
            int room = Integer.numberOfTrailingZeros(can);
            due("sight(" + card + ", " + room + ", " + t + ")", m.sight(card, room, t), x.sight(card, room, t));
        } else if (!fit.isEmpty()) {
            int[] f = fit.get(below(fit.size()));
            due("pass(" + card + ", " + f[0] + ", " + (f[1] == 1) + ", " + t + ")", m.pass(card, f[0], f[1] == 1, t),
                    x.pass(card, f[0], f[1] == 1, t));
        }
    }

    private void tellTape() {
        int a = random.nextInt();
        switch (below(12)) {
            case 0:
                build(below(2) == 0 ? spoiled(random) : building(random));
                due("card()", m.card(), x.card());
                break;
            case 1: case 2: case 3:
                int n = about(m.tape.length() + 1);
                due("end(" + n + ")", m.end(n), x.end(n));
                break;
            case 4:
                due("end(0)", m.end(0), x.end(0));
                break;
            default:
                due("feed(" + a + ")", m.feed(a, 0, a, -1, 7), x.feed(a, 0, a, -1, 7));
        }
    }

    private void ask() {
        int card = about(m.cards);
        int room = about(m.widths.size());
        int t = clock();
        int u = below(2) == 0 ? about(200) : t;
        int n = below(2) == 0 ? m.logs.size() : about(m.logs.size() + 1);
        int log = about(m.logs.size());
        int what = below(7) - 1;
        switch (below(14)) {
            case 0: case 1: case 2:
                due("rooms(" + card + ", " + t + ", " + n + ")", m.rooms(card, t, n), x.rooms(card, t, n));
                break;
            case 3: case 4: case 5:
                for (int i = below(4); i >= 0; i--) {
                    due("way(" + card + ", " + t + ", " + room + ", " + u + ")", m.way(card, t, room, u),
                            Check.way(x, card, t, room, u));
                    u = about(200);
                }
                break;
            case 6:
                due("broken(" + card + ", " + n + ")", m.broken(card, n), x.broken(card, n));
                break;
            case 7:
                due("many(" + room + ", " + t + ", " + n + ", " + what + ")", m.many(room, t, n, what),
                        x.many(room, t, n, what));
                break;
            case 8:
                due("inside(" + t + ", " + n + ", " + what + ")", m.inside(t, n, what), x.inside(t, n, what));
                break;
            case 9:
                due("allowed(" + card + ", " + room + ", " + t + ")", m.allowed(card, room, t),
                        x.allowed(card, room, t));
                break;
            case 10:
                due("odd(" + log + ", " + what + ")", m.odd(log, what), x.odd(log, what));
                break;
            case 11:
                int other = about(m.cards);
                int span = about(25);
                due("pairs(" + card + ", " + other + ", " + span + ", " + what + ")", m.pairs(card, other, span, what),
                        x.pairs(card, other, span, what));
                break;
            case 12:
                due("log(" + log + ", " + what + ")", m.log(log, what), x.log(log, what));
                break;
            default:
                due("count(" + what + ")", m.count(what), x.count(what));
                due("door(" + log + ", " + what + ")", m.door(log, what), x.door(log, what));
                due("wide(" + room + ")", m.wide(room), x.wide(room));
                due("place()", m.place, x.place());
        }
    }

    // ---- all ways written out

    private static void allWays(Random random) {
        Model m = new Model();
        String text = building(random);
        m.tape.append(text);
        m.building();
        m.card();
        int start = 160 + below(random, 20);
        for (int i = 1 + below(random, 4); i > 0; i--) {
            int door = below(random, m.doors.size());
            int t = Math.min(199, start + below(random, 20));
            boolean back = below(random, 2) == 0;
            int kind = below(random, 5);
            if (kind < 3) {
                m.pass(0, door, back, t);
            } else if (kind == 3) {
                m.gap(door, t, t);
            } else {
                m.sight(0, below(random, m.widths.size()), t);
            }
        }
        TreeSet<String> ways = m.new Search(0, m.logs.size(), 99, true).allWays();
        if (ways != null) {
            compareWays(text, m, ways);
        }
    }

    /** A reader that was told what the model was told. */
    private static DoorReader likeModel(String text, Model m) {
        DoorReader x = Check.with(text);
        x.card();
        for (int[] log : m.logs) {
            switch (log[0]) {
                case 0:
                    x.pass(0, log[2], log[4] == 1, log[3]);
                    break;
                case 1:
                    x.gap(log[2], log[3], log[4]);
                    break;
                default:
                    x.sight(0, log[2], log[3]);
            }
        }
        return x;
    }

    private static void compareWays(String text, Model m, TreeSet<String> ways) {
        DoorReader x = null;
        for (int t = 150; t < 200; t++) {
            if (t % 5 == 0) {
                x = likeModel(text, m);
            }
            int can = 0;
            for (String way : ways) {
                can |= 1 << way.charAt(t) - '0';
            }
            Check.due("rooms over all ways in " + t, can, x.rooms(0, t, m.logs.size()));
            for (int room = 0; room < m.widths.size(); room++) {
                String first = null;
                for (String way : ways) {
                    if (first == null && way.charAt(t) - '0' == room) {
                        first = way;
                    }
                }
                for (int u = 150; u < 200; u += 7) {
                    Check.due("first of all ways", first == null ? -1 : first.charAt(u) - '0',
                            Check.way(x, 0, t, room, u));
                }
            }
        }
    }
}
