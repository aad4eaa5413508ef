import java.util.NoSuchElementException;

/** What the tests share: counting wrong answers, a watch on calls that don't end, and feeding a text to a reader. */
final class Check {
    private static final long LONGEST_MILLIS = 600_000;

    static final String SMALL = "room out 0;room hall 1;room lab 0;door main out hall 2;door side hall lab 0;";

    private static int asked = 0;
    private static int wrong = 0;

    static {
        Thread watch = new Thread(Check::watch);
        watch.setDaemon(true);
        watch.start();
    }

    private Check() {
    }

    private static void watch() {
        try {
            Thread.sleep(LONGEST_MILLIS);
        } catch (InterruptedException e) {
            return;
        }
        System.out.println("a call does not end");
        Runtime.getRuntime().halt(1);
    }

    static void due(String call, long want, long got) {
        asked++;
        if (got != want) {
            wrong++;
            if (wrong <= 40) {
                System.out.println(call + " answered " + got + ", due is " + want);
            }
        }
    }

    static void holds(String what, boolean is) {
        due(what + " (1 holds)", 1, is ? 1 : 0);
    }

    static void finish(String test) {
        System.out.println(test + ": " + asked + " answers looked at, " + wrong + " not as due");
        System.exit(wrong == 0 && asked > 0 ? 0 : 1);
    }

    /** Feeds the text, padded with blanks to rows of twenty, and cuts the tape to the text; answers its calls. */
    static int feed(DoorReader x, String text) {
        int before = x.count(5);
        for (int from = 0; from < text.length(); from += 20) {
            int[] n = new int[5];
            for (int i = 0; i < 20; i++) {
                int sign = from + i < text.length() ? text.charAt(from + i) & 0xFF : 32;
                n[i / 4] = n[i / 4] << 8 | sign;
            }
            x.feed(n[0], n[1], n[2], n[3], n[4]);
        }
        x.end(before + text.length());
        return (text.length() + 19) / 20 + 2;
    }

    static int build(DoorReader x, String text) {
        feed(x, text);
        return x.building();
    }

    static DoorReader with(String text) {
        DoorReader x = new DoorReader();
        if (build(x, text) < 0) {
            throw new IllegalArgumentException("fault at " + x.place() + " of: " + text);
        }
        return x;
    }

    /** What way answers; -9 if it throws what the document names. */
    static int way(DoorReader x, int card, int t, int room, int u) {
        try {
            return x.way(card, t, room, u);
        } catch (NoSuchElementException e) {
            return -9;
        }
    }
}
