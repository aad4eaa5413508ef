import java.util.ArrayList;
import java.util.List;

/**
 * A sentence of the document, quoted, with the answers that are looked at for it. Promise 0 stands for the part
 * "Terms", promise -1 for the part "What it is".
 */
final class Edge {
    static final int USE = -1;
    static final int TERMS = 0;

    private static final List<Edge> ALL = new ArrayList<>();
    private static Edge now;

    final int promise;
    final String sentence;
    private int asked = 0;

    private Edge(int promise, String sentence) {
        this.promise = promise;
        this.sentence = sentence;
    }

    /** What is looked at from here on belongs to this sentence. */
    static void of(int promise, String sentence) {
        now = new Edge(promise, sentence);
        ALL.add(now);
    }

    static List<Edge> all() {
        return ALL;
    }

    static void due(String call, int want, int got) {
        now.asked++;
        Check.due(now + " " + call, want, got);
    }

    static void same(String what, String want, String got) {
        due(what + " (1 stays): " + want + " then " + got, 1, want.equals(got) ? 1 : 0);
    }

    boolean wasTested() {
        return asked > 0;
    }

    @Override
    public String toString() {
        String where = promise == USE ? "What it is" : promise == TERMS ? "Terms" : "Promise " + promise;
        return where + " \"" + sentence + "\":";
    }

    // ---- what the sentences' tests share

    /** A reader with this building and so many cards. */
    static DoorReader reader(String text, int cards) {
        DoorReader x = Check.with(text);
        for (int i = 0; i < cards; i++) {
            x.card();
        }
        return x;
    }

    static void good(String text, int rooms, int doors) {
        DoorReader x = new DoorReader();
        due("building of " + shown(text), rooms, Check.build(x, text));
        due("place in " + shown(text), -1, x.place());
        due("rooms of " + shown(text), rooms, x.count(0));
        due("doors of " + shown(text), doors, x.count(1));
    }

    static void fault(String text, int kind, int place) {
        DoorReader x = new DoorReader();
        due("building of " + shown(text), -1 - kind, Check.build(x, text));
        due("place in " + shown(text), place, x.place());
        due("rooms behind " + shown(text), 0, x.count(0));
    }

    private static String shown(String text) {
        StringBuilder out = new StringBuilder("<");
        for (char c : text.toCharArray()) {
            if (c >= 32 && c < 127) {
                out.append(c);
            } else {
                out.append('\\').append((int) c);
            }
        }
        return out.append('>').toString();
    }

    /** Rooms a, b, c .. of width 0, nine bytes each. */
    static String rooms(int n) {
        StringBuilder text = new StringBuilder();
        for (int i = 0; i < n; i++) {
            text.append("room ").append((char) ('a' + i)).append(" 0;");
        }
        return text.toString();
    }

    /** Doors m, n, o .. between a and b, thirteen bytes each. */
    static String doors(int n) {
        StringBuilder text = new StringBuilder();
        for (int i = 0; i < n; i++) {
            text.append("door ").append((char) ('m' + i)).append(" a b 0;");
        }
        return text.toString();
    }

    static String blanks(int n) {
        return " ".repeat(Math.max(n, 0));
    }

    /** Looks at the rooms of card 0 behind all logs, tick by tick from one on: the bits as digits. */
    static void knows(DoorReader x, String what, int from, String want) {
        for (int i = 0; i < want.length(); i++) {
            due(what + ", rooms(0, " + (from + i) + ", all)", Character.digit(want.charAt(i), 36),
                    x.rooms(0, from + i, x.count(3)));
        }
    }

    /** Looks at the first way of card 0 that has it in a room in tick t, from a tick on. */
    static void walks(DoorReader x, int t, int room, int from, String want) {
        for (int i = 0; i < want.length(); i++) {
            due("way(0, " + t + ", " + room + ", " + (from + i) + ")", want.charAt(i) - '0',
                    Check.way(x, 0, t, room, from + i));
        }
    }

    /**
     * Answers of all kinds in one line, to see that nothing has changed; without the tape and the place. Of what is
     * many only some is asked, since an object has 512 calls.
     */
    static String all(DoorReader x) {
        int[] ticks = {0, 8, 10, 12, 20, 42, 50, 75, 150, 199};
        StringBuilder out = new StringBuilder();
        for (int what = 0; what < 5; what++) {
            out.append(x.count(what)).append(' ');
        }
        for (int i = 0; i < 4; i++) {
            out.append(x.wide(i)).append(x.door(i, 0)).append(x.door(i, 1)).append(x.door(i, 2)).append(' ');
        }
        int n = x.count(3);
        for (int log = Math.max(0, n - 2); log <= n; log++) {
            for (int what = 0; what < 5; what++) {
                out.append(x.log(log, what)).append(',').append(x.odd(log, what)).append(' ');
            }
        }
        int cards = x.count(2);
        int rooms = x.count(0);
        for (int card = 0; card < cards; card++) {
            for (int tick : ticks) {
                out.append(x.rooms(card, tick, n)).append(',');
            }
            out.append(x.broken(card, n)).append(' ');
            for (int room = 0; room < rooms; room++) {
                out.append(Check.way(x, card, 60, room, 30)).append(x.allowed(card, room, 20)).append(' ');
            }
            out.append(x.pairs(0, card, 24, 1)).append(' ');
        }
        return out.append(x.many(0, 60, n, 1)).append(' ').append(x.inside(60, n, 2)).toString();
    }
}
