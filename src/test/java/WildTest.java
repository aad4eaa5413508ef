import java.lang.management.ManagementFactory;
import java.util.NoSuchElementException;
import java.util.Random;

/**
 * Any arguments in any state: no call throws but way, and way only what the document names; and a run makes little,
 * since all its calls live in one room.
 */
public final class WildTest {
    private static final int[] WILD = {Integer.MIN_VALUE, Integer.MIN_VALUE + 1, -200, -26, -2, -1, 0, 0, 0, 1, 1, 1, 2,
        2, 3, 4, 5, 6, 7, 8, 9, 10, 11, 12, 24, 25, 26, 99, 100, 101, 198, 199, 200, 201, 599, 600, 601,
        Integer.MAX_VALUE - 1, Integer.MAX_VALUE};

    /* The room has 7.3 million fields and elements, each of a byte at least. */
    private static final long ROOM = 7_300_000;

    private static Random random;

    public static void main(String[] args) {
        for (int seed = 0; seed < 300; seed++) {
            random = new Random(seed);
            wildRun(new DoorReader(), seed % 3);
        }
        frugality();
        Check.finish("WildTest");
    }

    private static int w() {
        return random.nextInt(4) == 0 ? random.nextInt(200) : WILD[random.nextInt(WILD.length)];
    }

    private static void wildRun(DoorReader x, int kind) {
        if (kind > 0) {
            Check.build(x, kind == 1 ? Check.SMALL : big());
            for (int i = 0; i < 10; i++) {
                x.card();
            }
        }
        for (int i = 0; i < 480; i++) {
            int what = random.nextInt(21);
            try {
                call(x, what);
                Check.holds("call " + what, true);
            } catch (NoSuchElementException e) {
                Check.holds("NoSuchElementException from way only, here from " + what, what == 10);
            } catch (RuntimeException e) {
                Check.holds("call " + what + " throws " + e, false);
            }
        }
    }

    private static int call(DoorReader x, int what) {
        boolean yes = random.nextBoolean();
        switch (what) {
            case 0: return x.feed(random.nextInt(), w(), w(), random.nextInt(), 0x20202020);
            case 1: return x.end(w());
            case 2: return random.nextInt(8) == 0 ? x.building() : x.place();
            case 3: return x.place();
            case 4: return x.card();
            case 5: return x.pass(w(), w(), yes, w());
            case 6: return x.gap(w(), w(), w());
            case 7: return x.sight(w(), w(), w());
            case 8: return x.right(w(), w(), w(), w(), yes);
            case 9: return x.rooms(w(), w(), w());
            case 10: return x.way(w(), w(), w(), w());
            case 11: return x.broken(w(), w());
            case 12: return x.many(w(), w(), w(), w());
            case 13: return x.inside(w(), w(), w());
            case 14: return x.allowed(w(), w(), w());
            case 15: return x.odd(w(), w());
            case 16: return x.pairs(w(), w(), w(), w());
            case 17: return x.log(w(), w());
            case 18: return x.door(w(), w());
            case 19: return x.wide(w());
            default: return x.count(w());
        }
    }

    private static String big() {
        StringBuilder text = new StringBuilder();
        for (char c = 'a'; c <= 'h'; c++) {
            text.append("room ").append(c).append(' ').append((c - 'a') % 5).append(';');
        }
        for (int d = 0; d < 10; d++) {
            text.append("door ").append((char) ('m' + d)).append(' ').append((char) ('a' + d % 8)).append(' ')
                    .append((char) ('a' + (d * 3 + 1) % 8 % 8)).append(' ').append(d % 7).append(';');
        }
        return text.toString().replace(" e e ", " e f ").replace(" a a ", " a b ");
    }

    private static void frugality() {
        com.sun.management.ThreadMXBean bean =
                (com.sun.management.ThreadMXBean) ManagementFactory.getThreadMXBean();
        long thread = Thread.currentThread().getId();
        for (int round = 0; round < 7; round++) {
            long start = bean.getThreadAllocatedBytes(thread);
            DoorReader x = new DoorReader();
            Check.build(x, big());
            long sum = manyCalls(x, 60 * round);
            long made = bean.getThreadAllocatedBytes(thread) - start;
            Check.holds("a run lives in its room, here of " + made + " bytes (" + sum + ")", made < ROOM);
        }
    }

    private static long manyCalls(DoorReader x, int from) {
        for (int card = 0; card < 10; card++) {
            x.card();
            for (int i = 0; i < 5; i++) {
                x.pass(card, i, i % 2 == 1, 20 * i + card);
            }
            x.gap(card, 10 * card, 150);
        }
        long sum = 0;
        for (int i = from; i < from + 60; i++) {
            int n = i % 61;
            sum += x.inside(i % 200, n, 1) + x.many(i % 8, i % 200, n, 0) + x.way(i % 10, i % 200, 0, 5)
                    + x.broken(i % 10, n) + x.odd(i % 50, 2) + x.pairs(0, 1 + i % 9, 24, 0);
        }
        Check.feed(x, "room a 0;room b");
        x.building();
        return sum;
    }
}
