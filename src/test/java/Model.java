import java.util.ArrayList;
import java.util.Arrays;
import java.util.Comparator;
import java.util.HashMap;
import java.util.HashSet;
import java.util.List;
import java.util.Map;
import java.util.Set;
import java.util.TreeMap;
import java.util.TreeSet;
import java.util.regex.Matcher;
import java.util.regex.Pattern;

/**
 * The document told a second time, with the means of the Java library and another method, as a measure for the
 * class: texts are cut by a pattern, ways are searched one step after another.
 */
final class Model {
    static final int NONE = -1;

    StringBuilder tape = new StringBuilder();
    int place = NONE;
    List<Integer> widths = new ArrayList<>();
    List<int[]> doors = new ArrayList<>();
    int cards = 0;
    List<int[]> logs = new ArrayList<>();
    List<int[]> rights = new ArrayList<>();
    private final Map<String, Search> searches = new HashMap<>();

    // ---- texts

    int feed(int... numbers) {
        if (tape.length() > 580) {
            return NONE;
        }
        for (int number : numbers) {
            for (int i = 3; i >= 0; i--) {
                tape.append((char) (number >> 8 * i & 255));
            }
        }
        return tape.length();
    }

    int end(int n) {
        if (n < 0 || n > tape.length()) {
            return NONE;
        }
        tape.setLength(n);
        return n;
    }

    private static final class Fault extends RuntimeException {
        private static final long serialVersionUID = 1L;
        final int kind;
        final int at;

        Fault(int kind, int at) {
            super(null, null, false, false);
            this.kind = kind;
            this.at = at;
        }
    }

    int building() {
        String text = tape.toString();
        tape.setLength(0);
        List<Integer> newWidths = new ArrayList<>();
        List<int[]> newDoors = new ArrayList<>();
        try {
            read(text, newWidths, newDoors);
        } catch (Fault f) {
            place = f.at;
            return -1 - f.kind;
        }
        place = NONE;
        widths = newWidths;
        doors = newDoors;
        cards = 0;
        logs.clear();
        rights.clear();
        searches.clear();
        return widths.size();
    }

    private static void read(String text, List<Integer> newWidths, List<int[]> newDoors) {
        Matcher m = Pattern.compile("[a-z]+|[0-9]+|[^ \n]").matcher(text);
        Map<String, Integer> roomNames = new HashMap<>();
        Set<String> names = new HashSet<>();
        String form = "";
        int[] got = new int[5];
        String name = "";
        int step = 0;
        while (m.find()) {
            String token = m.group();
            int at = m.start();
            if (step == 0) {
                form = token.equals("room") ? "rN1;" : token.equals("door") ? "dNRS2;" : "";
                if (form.isEmpty()) {
                    throw new Fault(1, at);
                }
                if (form.charAt(0) == 'r' ? newWidths.size() == 8 : newDoors.size() == 10) {
                    throw new Fault(2, at);
                }
            } else if (!fits(form.charAt(step), token)) {
                throw new Fault(1, at);
            } else {
                switch (form.charAt(step)) {
                    case 'N':
                        if (names.contains(token)) {
                            throw new Fault(3, at);
                        }
                        name = token;
                        break;
                    case 'R':
                    case 'S':
                        Integer room = roomNames.get(token);
                        if (room == null || form.charAt(step) == 'S' && room == got[2]) {
                            throw new Fault(4, at);
                        }
                        got[step] = room;
                        break;
                    case '1':
                    case '2':
                        got[step] = Integer.parseInt(token);
                        if (got[step] > (form.charAt(step) == '1' ? 4 : 6)) {
                            throw new Fault(5, at);
                        }
                        break;
                    default:
                        names.add(name);
                        if (form.charAt(0) == 'r') {
                            roomNames.put(name, newWidths.size());
                            newWidths.add(got[2]);
                        } else {
                            newDoors.add(new int[] {got[2], got[3], got[4]});
                        }
                }
            }
            step = (step + 1) % form.length();
        }
        if (step != 0) {
            throw new Fault(1, text.length());
        }
        if (newWidths.size() < 2) {
            throw new Fault(6, text.length());
        }
    }

    private static boolean fits(char wanted, String token) {
        switch (wanted) {
            case '1':
            case '2':
                return token.matches("[0-9]{1,4}");
            case ';':
                return token.equals(";");
            default:
                return token.matches("[a-z]{1,8}") && !token.equals("room") && !token.equals("door");
        }
    }

    // ---- what is told

    boolean tick(int t) {
        return 0 <= t && t <= 199;
    }

    boolean isCard(int c) {
        return 0 <= c && c < cards;
    }

    boolean isRoom(int r) {
        return 0 <= r && r < widths.size();
    }

    boolean isDoor(int d) {
        return 0 <= d && d < doors.size();
    }

    int card() {
        return widths.isEmpty() || cards == 10 ? NONE : cards++;
    }

    private int tell(int... log) {
        if (logs.size() == 100) {
            return NONE;
        }
        logs.add(log);
        return logs.size() - 1;
    }

    int pass(int card, int door, boolean back, int tick) {
        boolean fine = isCard(card) && isDoor(door) && tick(tick) && passes(card, logs.size()).size() < 12;
        return fine ? tell(0, card, door, tick, back ? 1 : 0) : NONE;
    }

    int gap(int door, int from, int to) {
        return isDoor(door) && tick(from) && tick(to) && from <= to ? tell(1, NONE, door, from, to) : NONE;
    }

    int sight(int card, int room, int tick) {
        return isCard(card) && isRoom(room) && tick(tick) ? tell(2, card, room, tick, NONE) : NONE;
    }

    int right(int card, int room, int from, int to, boolean given) {
        if (!isCard(card) || !isRoom(room) || !tick(from) || !tick(to) || from > to || rights.size() == 100) {
            return NONE;
        }
        rights.add(new int[] {card, room, from, to, given ? 1 : 0});
        return rights.size() - 1;
    }

    // ---- ways

    /** The numbers of the passes of a card among the first n logs, in the order in which they are gone by. */
    List<Integer> passes(int card, int n) {
        List<Integer> found = new ArrayList<>();
        for (int k = 0; k < n; k++) {
            if (logs.get(k)[0] == 0 && logs.get(k)[1] == card) {
                found.add(k);
            }
        }
        found.sort(Comparator.comparingInt(k -> logs.get(k)[3]));
        return found;
    }

    /** One search: where one can be, step by step, with the tick in which the room was come to. */
    final class Search {
        final List<int[]> order = new ArrayList<>();
        final List<int[]> gaps = new ArrayList<>();
        final int[] seen = new int[200];
        final int[] rooms = new int[200];
        final Map<Long, Boolean> ends = new HashMap<>();

        Search(int card, int n, int firstPasses, boolean withSights) {
            Arrays.fill(seen, 255);
            for (int k : passes(card, n)) {
                if (order.size() < firstPasses) {
                    order.add(logs.get(k));
                }
            }
            for (int[] log : logs.subList(0, n)) {
                if (log[0] == 1) {
                    gaps.add(log);
                } else if (withSights && log[0] == 2 && log[1] == card) {
                    seen[log[3]] &= 1 << log[2];
                }
            }
        }

        /** Whether a way goes on from here: the tick to come, the room, since how many ticks, passes gone by. */
        boolean goesOn(int tick, int room, int since, int gone) {
            if (tick == 200) {
                return gone == order.size();
            }
            long key = ((tick * 8L + room) * 8 + since) * 16 + gone;
            Boolean known = ends.get(key);
            if (known == null) {
                boolean any = false;
                for (int[] next : steps(tick, room, since, gone)) {
                    if (goesOn(tick + 1, next[0], next[1], next[2])) {
                        any = true;
                        rooms[tick] |= 1 << next[0];
                    }
                }
                known = any;
                ends.put(key, known);
            }
            return known;
        }

        List<int[]> steps(int tick, int room, int since, int gone) {
            List<int[]> next = new ArrayList<>();
            next.add(new int[] {room, Math.min(since + 1, 7), gone});
            if (since >= widths.get(room)) {
                for (int[] gap : gaps) {
                    int[] door = doors.get(gap[2]);
                    if (gap[3] - door[2] <= tick && tick <= gap[4] + door[2]) {
                        if (door[0] == room) {
                            next.add(new int[] {door[1], 0, gone});
                        }
                        if (door[1] == room) {
                            next.add(new int[] {door[0], 0, gone});
                        }
                    }
                }
                if (gone < order.size()) {
                    int[] pass = order.get(gone);
                    int[] door = doors.get(pass[2]);
                    if (door[pass[4]] == room && Math.abs(tick - pass[3]) <= door[2]) {
                        next.add(new int[] {door[1 - pass[4]], 0, gone + 1});
                    }
                }
            }
            next.removeIf(s -> (seen[tick] >> s[0] & 1) == 0);
            return next;
        }

        boolean any() {
            return goesOn(0, 0, 7, 0);
        }

        int[] firstWay() {
            if (!any()) {
                return null;
            }
            int[] way = new int[200];
            Map<String, int[]> at = new TreeMap<>();
            at.put("", new int[] {0, 7, 0});
            for (int tick = 0; tick < 200; tick++) {
                Map<String, int[]> then = new TreeMap<>();
                int least = 99;
                for (int[] s : at.values()) {
                    for (int[] next : steps(tick, s[0], s[1], s[2])) {
                        if (goesOn(tick + 1, next[0], next[1], next[2])) {
                            least = Math.min(least, next[0]);
                            then.put(Arrays.toString(next), next);
                        }
                    }
                }
                int room = least;
                then.values().removeIf(s -> s[0] != room);
                way[tick] = room;
                at = then;
            }
            return way;
        }

        /** All ways as texts, without any memory of dead ends; null if the search is too long. */
        TreeSet<String> allWays() {
            TreeSet<String> found = new TreeSet<>();
            int[] budget = {200_000};
            collect(0, 0, 7, 0, new char[200], found, budget);
            return budget[0] > 0 ? found : null;
        }

        private void collect(int tick, int room, int since, int gone, char[] way, Set<String> found, int[] budget) {
            if (budget[0]-- <= 0) {
                return;
            }
            if (tick == 200) {
                if (gone == order.size()) {
                    found.add(new String(way));
                }
                return;
            }
            for (int[] s : steps(tick, room, since, gone)) {
                way[tick] = (char) ('0' + s[0]);
                collect(tick + 1, s[0], s[1], s[2], way, found, budget);
            }
        }
    }

    Search search(int card, int n) {
        return searches.computeIfAbsent(card + " " + n, key -> {
            Search s = new Search(card, n, 99, true);
            if (!s.any()) {
                Arrays.fill(s.rooms, 0);
            }
            return s;
        });
    }

    boolean behind(int n) {
        return 0 <= n && n <= logs.size();
    }

    int rooms(int card, int tick, int n) {
        return isCard(card) && tick(tick) && behind(n) ? search(card, n).rooms[tick] : NONE;
    }

    /** -9 where the document wants an exception. */
    int way(int card, int t, int room, int u) {
        if (!isCard(card) || !tick(t) || !isRoom(room) || !tick(u)) {
            return -9;
        }
        Search s = searches.computeIfAbsent("way " + card + " " + t + " " + room + " " + logs.size(), key -> {
            Search made = new Search(card, logs.size(), 99, true);
            made.seen[t] &= 1 << room;
            return made;
        });
        int[] way = s.firstWay();
        return way == null ? NONE : way[u];
    }

    int broken(int card, int n) {
        if (!isCard(card) || !behind(n)) {
            return NONE;
        }
        List<Integer> order = passes(card, n);
        for (int some = 1; some <= order.size(); some++) {
            if (!new Search(card, n, some, false).any()) {
                return order.get(some - 1);
            }
        }
        return NONE;
    }

    int many(int room, int tick, int n, int what) {
        if (!isRoom(room) || !tick(tick) || !behind(n) || what < 0 || what > 1) {
            return NONE;
        }
        int sum = 0;
        for (int card = 0; card < cards; card++) {
            int can = rooms(card, tick, n);
            boolean there = (can >> room & 1) == 1;
            sum += there && (what == 1 || Integer.bitCount(can) == 1) ? 1 : 0;
        }
        return sum;
    }

    int inside(int tick, int n, int what) {
        if (!tick(tick) || !behind(n) || what < 0 || what > 2) {
            return NONE;
        }
        int sum = 0;
        for (int card = 0; card < cards; card++) {
            int can = rooms(card, tick, n);
            boolean counts = what == 0 ? can != 0 && can % 2 == 0 : can > 1;
            sum += counts ? what == 2 ? 1 << card : 1 : 0;
        }
        return sum;
    }

    // ---- what passes tell as told

    int allowed(int card, int room, int tick) {
        if (!isCard(card) || !isRoom(room) || !tick(tick)) {
            return NONE;
        }
        int answer = room == 0 ? 1 : 0;
        for (int[] r : rights) {
            if (r[0] == card && r[1] == room && r[2] <= tick && tick <= r[3]) {
                answer = r[4];
            }
        }
        return answer;
    }

    private int from(int[] pass) {
        return doors.get(pass[2])[pass[4]];
    }

    private int into(int[] pass) {
        return doors.get(pass[2])[1 - pass[4]];
    }

    int odd(int log, int what) {
        if (log < 0 || log >= logs.size() || logs.get(log)[0] != 0 || what < 0 || what > 3) {
            return NONE;
        }
        int[] own = logs.get(log);
        List<int[]> ahead = new ArrayList<>(logs.subList(0, log));
        ahead.removeIf(l -> l[0] != 0 || l[1] != own[1]);
        if (what == 0) {
            return ahead.stream().anyMatch(l -> into(l) == into(own)) ? 0 : 1;
        }
        if (what == 1) {
            return allowed(own[1], into(own), own[3]);
        }
        if (from(own) != 0) {
            return NONE;
        }
        TreeMap<Integer, Integer> hours = new TreeMap<>();
        for (int[] l : ahead) {
            if (from(l) == 0 && l[3] / 25 < own[3] / 25) {
                hours.merge(l[3] / 25, l[3] % 25, Math::min);
            }
        }
        return (int) hours.values().stream().filter(h -> what == 3 || h >= own[3] % 25).count();
    }

    int pairs(int a, int b, int span, int what) {
        if (!isCard(a) || !isCard(b) || a == b || span < 0 || span > 24 || what < 0 || what > 1) {
            return NONE;
        }
        Set<Integer> days = new HashSet<>();
        for (int i : passes(a, logs.size())) {
            for (int j : passes(b, logs.size())) {
                int[] p = logs.get(i);
                int[] q = logs.get(j);
                boolean near = p[2] == q[2] && p[4] == q[4] && Math.abs(p[3] - q[3]) <= span;
                if (p[3] / 25 == q[3] / 25 && (what == 1 || near)) {
                    days.add(p[3] / 25);
                }
            }
        }
        return days.size();
    }

    int log(int k, int what) {
        return k < 0 || k >= logs.size() || what < 0 || what > 4 ? NONE : logs.get(k)[what];
    }

    int door(int d, int what) {
        return !isDoor(d) || what < 0 || what > 2 ? NONE : doors.get(d)[what];
    }

    int wide(int room) {
        return isRoom(room) ? widths.get(room) : NONE;
    }

    int count(int what) {
        int[] counts = {widths.size(), doors.size(), cards, logs.size(), rights.size(), tape.length()};
        return what < 0 || what > 5 ? NONE : counts[what];
    }
}
