import java.util.Arrays;
import java.util.NoSuchElementException;

/**
 * A reader of door logs: from passes by clocks that err, gaps and sights it tells where the owners of cards
 * can have been. The document (DOC.md) says what each call answers; README.md says how to use the class.
 *
 * All rows are made with the object and used again, so that no call makes anything.
 */
public final class DoorReader {
    public static final int NONE = -1;

    private static final int MOST_BYTES = 600;
    private static final int FED_BYTES = 20;
    private static final int MOST_ROOMS = 8;
    private static final int LEAST_ROOMS = 2;
    private static final int MOST_DOORS = 10;
    private static final int MOST_CARDS = 10;
    private static final int MOST_LOGS = 100;
    private static final int MOST_RIGHTS = 100;
    private static final int MOST_PASSES = 12;
    private static final int MOST_WIDTH = 4;
    private static final int MOST_ERROR = 6;
    private static final int MOST_LETTERS = 8;
    private static final int MOST_DIGITS = 4;
    private static final int TICKS = 200;
    private static final int DAY_TICKS = 25;
    private static final int DAYS = 8;
    private static final int OUTSIDE = 0;

    private static final int KIND_PASS = 0;
    private static final int KIND_GAP = 1;
    private static final int KIND_SIGHT = 2;

    private static final int NO_FAULT = 0;
    private static final int FAULT_TOKEN = 1;
    private static final int FAULT_TOO_MANY = 2;
    private static final int FAULT_NAME_AGAIN = 3;
    private static final int FAULT_NO_ROOM = 4;
    private static final int FAULT_NUMBER = 5;
    private static final int FAULT_FEW_ROOMS = 6;

    private static final int TOKEN_END = 0;
    private static final int TOKEN_WORD = 1;
    private static final int TOKEN_NUMBER = 2;
    private static final int TOKEN_SIGN = 3;
    private static final int TOKEN_WRONG = 4;

    /* A word's code has five bits for each letter (a is 1), so that a name of eight letters fits into a long. */
    private static final int LETTER_BITS = 5;
    private static final long NO_NAME = 0;
    private static final long WORD_ROOM = (((18L << 5 | 15L) << 5 | 15L) << 5) | 13L;
    private static final long WORD_DOOR = (((4L << 5 | 15L) << 5 | 15L) << 5) | 18L;

    /*
     * Where an owner can be as a tick ends is a set of bits: bit 8 * wait + room stands for a room that can be
     * left only when so many ticks more have ended. Waits go up to the greatest width, so 40 bits are enough.
     */
    private static final int WAIT_BITS = 8;
    private static final long FREE_TO_LEAVE = 0xFFL;
    private static final long EVERYWHERE = 0xFFFFFFFFFFL;
    private static final long ONE_ROOM = 0x0101010101L;

    /* A stage is how many of a card's passes, in order, have been gone by. */
    private static final int STAGES = MOST_PASSES + 1;

    private final byte[] tape = new byte[MOST_BYTES];
    private int bytes;
    private int faultPlace;
    private int cards;
    private final Plan plan;
    private final Plan draft;
    private final TextReader reader;
    private final LogBook logs;
    private final RightBook rights;
    private final Habits habits;
    private final Known known;

    public DoorReader() {
        faultPlace = NONE;
        plan = new Plan();
        draft = new Plan();
        reader = new TextReader(tape);
        logs = new LogBook();
        rights = new RightBook();
        habits = new Habits(plan, logs);
        known = new Known(logs, new Walks(plan, logs));
    }

    public int feed(int a, int b, int c, int d, int e) {
        if (bytes + FED_BYTES > MOST_BYTES) {
            return NONE;
        }
        putNumber(a);
        putNumber(b);
        putNumber(c);
        putNumber(d);
        putNumber(e);
        return bytes;
    }

    public int end(int n) {
        if (n < 0 || n > bytes) {
            return NONE;
        }
        bytes = n;
        return n;
    }

    public int building() {
        int fault = reader.readInto(draft, bytes);
        bytes = 0;
        if (fault != NO_FAULT) {
            faultPlace = reader.faultPlace;
            return -1 - fault;
        }
        faultPlace = NONE;
        plan.copyFrom(draft);
        cards = 0;
        logs.clear();
        rights.clear();
        known.forget();
        return plan.rooms;
    }

    public int place() {
        return faultPlace;
    }

    public int card() {
        if (plan.rooms == 0 || cards == MOST_CARDS) {
            return NONE;
        }
        cards++;
        return cards - 1;
    }

    public int pass(int card, int door, boolean back, int tick) {
        if (!hasCard(card) || !hasDoor(door) || !isTick(tick) || logs.passesOf(card) >= MOST_PASSES) {
            return NONE;
        }
        return logs.add(KIND_PASS, card, door, tick, back ? 1 : 0);
    }

    public int gap(int door, int from, int to) {
        if (!hasDoor(door) || !isTick(from) || !isTick(to) || from > to) {
            return NONE;
        }
        return logs.add(KIND_GAP, NONE, door, from, to);
    }

    public int sight(int card, int room, int tick) {
        if (!hasCard(card) || !hasRoom(room) || !isTick(tick)) {
            return NONE;
        }
        return logs.add(KIND_SIGHT, card, room, tick, NONE);
    }

    public int right(int card, int room, int from, int to, boolean given) {
        if (!hasCard(card) || !hasRoom(room) || !isTick(from) || !isTick(to) || from > to) {
            return NONE;
        }
        return rights.add(card, room, from, to, given);
    }

    public int rooms(int card, int tick, int n) {
        if (!hasCard(card) || !isTick(tick) || !isBehind(n)) {
            return NONE;
        }
        return known.roomsOf(card, tick, n);
    }

    public int way(int card, int t, int room, int u) throws NoSuchElementException {
        if (!hasCard(card) || !isTick(t) || !hasRoom(room) || !isTick(u)) {
            throw new NoSuchElementException("no such card, tick or room");
        }
        return known.roomOnFirstWay(card, t, room, u);
    }

    public int broken(int card, int n) {
        if (!hasCard(card) || !isBehind(n)) {
            return NONE;
        }
        return known.breakOf(card, n);
    }

    public int many(int room, int tick, int n, int what) {
        if (!hasRoom(room) || !isTick(tick) || !isBehind(n) || what < 0 || what > 1) {
            return NONE;
        }
        int there = 1 << room;
        int sum = 0;
        for (int card = 0; card < cards; card++) {
            int can = known.roomsOf(card, tick, n);
            if (what == 0 ? can == there : (can & there) != 0) {
                sum++;
            }
        }
        return sum;
    }

    public int inside(int tick, int n, int what) {
        if (!isTick(tick) || !isBehind(n) || what < 0 || what > 2) {
            return NONE;
        }
        int outside = 1 << OUTSIDE;
        int surely = 0;
        int perhaps = 0;
        for (int card = 0; card < cards; card++) {
            int can = known.roomsOf(card, tick, n);
            if ((can & ~outside) != 0) {
                perhaps |= 1 << card;
                if ((can & outside) == 0) {
                    surely++;
                }
            }
        }
        if (what == 0) {
            return surely;
        }
        return what == 1 ? Integer.bitCount(perhaps) : perhaps;
    }

    public int allowed(int card, int room, int tick) {
        if (!hasCard(card) || !hasRoom(room) || !isTick(tick)) {
            return NONE;
        }
        return rights.allows(card, room, tick) ? 1 : 0;
    }

    public int odd(int log, int what) {
        if (!logs.isPass(log)) {
            return NONE;
        }
        switch (what) {
            case 0:
                return habits.isFirst(log) ? 1 : 0;
            case 1:
                return rights.allows(logs.card[log], habits.roomComeTo(log), logs.tick[log]) ? 1 : 0;
            case 2:
                return habits.isFromOutside(log) ? habits.daysAsLate(log) : NONE;
            case 3:
                return habits.isFromOutside(log) ? habits.daysAhead(log) : NONE;
            default:
                return NONE;
        }
    }

    public int pairs(int a, int b, int span, int what) {
        if (!hasCard(a) || !hasCard(b) || a == b || span < 0 || span >= DAY_TICKS) {
            return NONE;
        }
        switch (what) {
            case 0:
                return Integer.bitCount(habits.daysTogether(a, b, span));
            case 1:
                return Integer.bitCount(habits.daysOf(a) & habits.daysOf(b));
            default:
                return NONE;
        }
    }

    public int log(int k, int what) {
        if (!logs.has(k)) {
            return NONE;
        }
        switch (what) {
            case 0:
                return logs.kind[k];
            case 1:
                return logs.card[k];
            case 2:
                return logs.target[k];
            case 3:
                return logs.tick[k];
            case 4:
                return logs.more[k];
            default:
                return NONE;
        }
    }

    public int door(int d, int what) {
        if (!hasDoor(d)) {
            return NONE;
        }
        switch (what) {
            case 0:
                return plan.first[d];
            case 1:
                return plan.second[d];
            case 2:
                return plan.error[d];
            default:
                return NONE;
        }
    }

    public int wide(int room) {
        return hasRoom(room) ? plan.width[room] : NONE;
    }

    public int count(int what) {
        switch (what) {
            case 0:
                return plan.rooms;
            case 1:
                return plan.doors;
            case 2:
                return cards;
            case 3:
                return logs.size;
            case 4:
                return rights.size;
            case 5:
                return bytes;
            default:
                return NONE;
        }
    }

    private void putNumber(int number) {
        for (int shift = 24; shift >= 0 && bytes < MOST_BYTES; shift -= 8) {
            tape[bytes] = (byte) (number >>> shift);
            bytes++;
        }
    }

    private boolean hasCard(int card) {
        return card >= 0 && card < cards;
    }

    private boolean hasRoom(int room) {
        return room >= 0 && room < plan.rooms;
    }

    private boolean hasDoor(int door) {
        return door >= 0 && door < plan.doors;
    }

    private boolean isTick(int tick) {
        return tick >= 0 && tick < TICKS;
    }

    private boolean isBehind(int n) {
        return n >= 0 && n <= logs.size;
    }

    /** The rooms and doors that a text told. */
    private static final class Plan {
        private int rooms;
        private int doors;
        private final long[] roomName = new long[MOST_ROOMS];
        private final int[] width = new int[MOST_ROOMS];
        private final long[] doorName = new long[MOST_DOORS];
        private final int[] first = new int[MOST_DOORS];
        private final int[] second = new int[MOST_DOORS];
        private final int[] error = new int[MOST_DOORS];

        private void clear() {
            rooms = 0;
            doors = 0;
        }

        /* Without the names: they matter only while a text is read. */
        private void copyFrom(Plan other) {
            rooms = other.rooms;
            doors = other.doors;
            System.arraycopy(other.width, 0, width, 0, MOST_ROOMS);
            System.arraycopy(other.first, 0, first, 0, MOST_DOORS);
            System.arraycopy(other.second, 0, second, 0, MOST_DOORS);
            System.arraycopy(other.error, 0, error, 0, MOST_DOORS);
        }

        private int roomNamed(long name) {
            for (int room = 0; room < rooms; room++) {
                if (roomName[room] == name) {
                    return room;
                }
            }
            return NONE;
        }

        private boolean hasName(long name) {
            for (int door = 0; door < doors; door++) {
                if (doorName[door] == name) {
                    return true;
                }
            }
            return roomNamed(name) != NONE;
        }

        private void addRoom(long name, int wide) {
            if (rooms < MOST_ROOMS) {
                roomName[rooms] = name;
                width[rooms] = wide;
                rooms++;
            }
        }

        private void addDoor(long name, int from, int to, int errs) {
            if (doors < MOST_DOORS) {
                doorName[doors] = name;
                first[doors] = from;
                second[doors] = to;
                error[doors] = errs;
                doors++;
            }
        }

        private int roomLeft(int door, boolean back) {
            return back ? second[door] : first[door];
        }

        private int roomComeTo(int door, boolean back) {
            return back ? first[door] : second[door];
        }
    }

    /** Reads a text token by token, so that the first fault that is met is the leftmost one. */
    private static final class TextReader {
        private final byte[] text;
        private int length;
        private int at;
        private int token;
        private int start;
        private int size;
        private long value;
        private int fault;
        private int faultPlace;

        private TextReader(byte[] text) {
            this.text = text;
        }

        /** Fills the plan; answers the kind of the fault, and the plan is of no use if there is one. */
        private int readInto(Plan plan, int textLength) {
            plan.clear();
            length = Math.min(textLength, text.length);
            at = 0;
            fault = NO_FAULT;
            faultPlace = NONE;
            nextToken();
            for (int i = 0; i <= MOST_BYTES && fault == NO_FAULT && token != TOKEN_END; i++) {
                if (token == TOKEN_WORD && value == WORD_ROOM) {
                    readRoom(plan);
                } else if (token == TOKEN_WORD && value == WORD_DOOR) {
                    readDoor(plan);
                } else {
                    faultHere(FAULT_TOKEN);
                }
            }
            if (fault == NO_FAULT && plan.rooms < LEAST_ROOMS) {
                faultHere(FAULT_FEW_ROOMS);
            }
            return fault;
        }

        private void readRoom(Plan plan) {
            if (plan.rooms >= MOST_ROOMS) {
                faultHere(FAULT_TOO_MANY);
                return;
            }
            nextToken();
            long name = takeNewName(plan);
            int width = takeNumber(MOST_WIDTH);
            takeSign();
            if (fault == NO_FAULT) {
                plan.addRoom(name, width);
            }
        }

        private void readDoor(Plan plan) {
            if (plan.doors >= MOST_DOORS) {
                faultHere(FAULT_TOO_MANY);
                return;
            }
            nextToken();
            long name = takeNewName(plan);
            int first = takeRoom(plan, NONE);
            int second = takeRoom(plan, first);
            int error = takeNumber(MOST_ERROR);
            takeSign();
            if (fault == NO_FAULT) {
                plan.addDoor(name, first, second, error);
            }
        }

        private long takeNewName(Plan plan) {
            if (!isName()) {
                faultHere(FAULT_TOKEN);
            } else if (plan.hasName(value)) {
                faultHere(FAULT_NAME_AGAIN);
            }
            long name = value;
            nextToken();
            return name;
        }

        private int takeRoom(Plan plan, int notThis) {
            int room = plan.roomNamed(value);
            if (!isName()) {
                faultHere(FAULT_TOKEN);
            } else if (room == NONE || room == notThis) {
                faultHere(FAULT_NO_ROOM);
            }
            nextToken();
            return room;
        }

        private int takeNumber(int most) {
            if (token != TOKEN_NUMBER || size > MOST_DIGITS) {
                faultHere(FAULT_TOKEN);
            } else if (value > most) {
                faultHere(FAULT_NUMBER);
            }
            int number = (int) value;
            nextToken();
            return number;
        }

        private void takeSign() {
            if (token != TOKEN_SIGN) {
                faultHere(FAULT_TOKEN);
            }
            nextToken();
        }

        private boolean isName() {
            return token == TOKEN_WORD && value != NO_NAME && value != WORD_ROOM && value != WORD_DOOR;
        }

        /* Callers read on behind a fault, so the first one stays. */
        private void faultHere(int kind) {
            if (fault == NO_FAULT) {
                fault = kind;
                faultPlace = start;
            }
        }

        private void nextToken() {
            while (at < length && isBlank(text[at])) {
                at++;
            }
            start = at;
            value = 0;
            if (at >= length) {
                token = TOKEN_END;
            } else if (isLetter(text[at])) {
                readWord();
            } else if (isDigit(text[at])) {
                readNumber();
            } else {
                token = text[at] == ';' ? TOKEN_SIGN : TOKEN_WRONG;
                at++;
            }
            size = at - start;
        }

        private void readWord() {
            token = TOKEN_WORD;
            while (at < length && isLetter(text[at])) {
                value = value << LETTER_BITS | (text[at] - 'a' + 1);
                at++;
            }
            if (at - start > MOST_LETTERS) {
                value = NO_NAME;
            }
        }

        private void readNumber() {
            token = TOKEN_NUMBER;
            while (at < length && isDigit(text[at])) {
                value = value * 10 + (text[at] - '0');
                at++;
            }
        }

        private static boolean isBlank(byte sign) {
            return sign == ' ' || sign == '\n';
        }

        private static boolean isLetter(byte sign) {
            return sign >= 'a' && sign <= 'z';
        }

        private static boolean isDigit(byte sign) {
            return sign >= '0' && sign <= '9';
        }
    }

    /** The logs as they came. Target is a door, of a sight the room; more is whether back, or where a gap ends. */
    private static final class LogBook {
        private int size;
        private final int[] kind = new int[MOST_LOGS];
        private final int[] card = new int[MOST_LOGS];
        private final int[] target = new int[MOST_LOGS];
        private final int[] tick = new int[MOST_LOGS];
        private final int[] more = new int[MOST_LOGS];

        private void clear() {
            size = 0;
        }

        private int add(int newKind, int ofCard, int newTarget, int newTick, int newMore) {
            if (size >= MOST_LOGS) {
                return NONE;
            }
            kind[size] = newKind;
            card[size] = ofCard;
            target[size] = newTarget;
            tick[size] = newTick;
            more[size] = newMore;
            size++;
            return size - 1;
        }

        private boolean has(int log) {
            return log >= 0 && log < size;
        }

        private boolean isPass(int log) {
            return has(log) && kind[log] == KIND_PASS;
        }

        private boolean isPassOf(int log, int ofCard) {
            return isPass(log) && card[log] == ofCard;
        }

        private boolean isBack(int log) {
            return more[log] == 1;
        }

        private int passesOf(int ofCard) {
            int sum = 0;
            for (int log = 0; log < size; log++) {
                if (isPassOf(log, ofCard)) {
                    sum++;
                }
            }
            return sum;
        }

        /** How many of the first n logs are left when the last ones that say nothing of the card are dropped. */
        private int tellingOf(int ofCard, int n) {
            for (int log = Math.min(n, size) - 1; log >= 0; log--) {
                if (card[log] == ofCard || kind[log] == KIND_GAP) {
                    return log + 1;
                }
            }
            return 0;
        }
    }

    /** The rights as they were told. */
    private static final class RightBook {
        private int size;
        private final int[] card = new int[MOST_RIGHTS];
        private final int[] room = new int[MOST_RIGHTS];
        private final int[] from = new int[MOST_RIGHTS];
        private final int[] to = new int[MOST_RIGHTS];
        private final boolean[] given = new boolean[MOST_RIGHTS];

        private void clear() {
            size = 0;
        }

        private int add(int ofCard, int forRoom, int fromTick, int toTick, boolean isGiven) {
            if (size >= MOST_RIGHTS) {
                return NONE;
            }
            card[size] = ofCard;
            room[size] = forRoom;
            from[size] = fromTick;
            to[size] = toTick;
            given[size] = isGiven;
            size++;
            return size - 1;
        }

        private boolean allows(int ofCard, int inRoom, int tick) {
            for (int i = size - 1; i >= 0; i--) {
                if (card[i] == ofCard && room[i] == inRoom && from[i] <= tick && tick <= to[i]) {
                    return given[i];
                }
            }
            return inRoom == OUTSIDE;
        }
    }

    /** What passes tell as they were told, without a look at the ways. */
    private static final class Habits {
        private final Plan plan;
        private final LogBook logs;
        private final int[] earliest = new int[DAYS];

        private Habits(Plan plan, LogBook logs) {
            this.plan = plan;
            this.logs = logs;
        }

        private int roomComeTo(int pass) {
            return plan.roomComeTo(logs.target[pass], logs.isBack(pass));
        }

        private boolean isFromOutside(int pass) {
            return plan.roomLeft(logs.target[pass], logs.isBack(pass)) == OUTSIDE;
        }

        private boolean isFirst(int pass) {
            int room = roomComeTo(pass);
            for (int log = 0; log < pass; log++) {
                if (logs.isPassOf(log, logs.card[pass]) && roomComeTo(log) == room) {
                    return false;
                }
            }
            return true;
        }

        private int daysAhead(int pass) {
            findEarliest(pass);
            int sum = 0;
            for (int day = 0; day < dayOf(pass); day++) {
                if (earliest[day] != NONE) {
                    sum++;
                }
            }
            return sum;
        }

        private int daysAsLate(int pass) {
            findEarliest(pass);
            int hour = logs.tick[pass] % DAY_TICKS;
            int sum = 0;
            for (int day = 0; day < dayOf(pass); day++) {
                if (earliest[day] != NONE && earliest[day] % DAY_TICKS >= hour) {
                    sum++;
                }
            }
            return sum;
        }

        /** For each day the earliest tick of the card's passes from outside that came ahead of this one. */
        private void findEarliest(int pass) {
            Arrays.fill(earliest, NONE);
            for (int log = 0; log < pass; log++) {
                if (logs.isPassOf(log, logs.card[pass]) && isFromOutside(log)) {
                    int day = dayOf(log);
                    if (earliest[day] == NONE || logs.tick[log] < earliest[day]) {
                        earliest[day] = logs.tick[log];
                    }
                }
            }
        }

        private int daysOf(int card) {
            int days = 0;
            for (int log = 0; log < logs.size; log++) {
                if (logs.isPassOf(log, card)) {
                    days |= 1 << dayOf(log);
                }
            }
            return days;
        }

        private int daysTogether(int a, int b, int span) {
            int days = 0;
            for (int log = 0; log < logs.size; log++) {
                if (logs.isPassOf(log, a) && isNear(log, b, span)) {
                    days |= 1 << dayOf(log);
                }
            }
            return days;
        }

        private boolean isNear(int pass, int card, int span) {
            for (int log = 0; log < logs.size; log++) {
                if (logs.isPassOf(log, card)
                        && logs.target[log] == logs.target[pass]
                        && logs.more[log] == logs.more[pass]
                        && dayOf(log) == dayOf(pass)
                        && Math.abs(logs.tick[log] - logs.tick[pass]) <= span) {
                    return true;
                }
            }
            return false;
        }

        private int dayOf(int log) {
            return logs.tick[log] / DAY_TICKS;
        }
    }

    /** All ways of one card at a time, as sets of where its owner can be at each stage. */
    private static final class Walks {
        private final Plan plan;
        private final LogBook logs;
        private int passes;
        private final int[] passLog = new int[MOST_PASSES];
        private final int[] leaves = new int[MOST_PASSES];
        private final int[] comesTo = new int[MOST_PASSES];
        private final int[] soonest = new int[MOST_PASSES];
        private final int[] latest = new int[MOST_PASSES];
        private int openBehind = NONE;
        private final int[] openDoors = new int[TICKS];
        private final long[] seen = new long[TICKS];
        private final long[] entry = new long[MOST_ROOMS];
        private final long[] hopeful = new long[TICKS * STAGES];
        private final long[] now = new long[STAGES];

        private Walks(Plan plan, LogBook logs) {
            this.plan = plan;
            this.logs = logs;
        }

        private void forget() {
            openBehind = NONE;
            for (int room = 0; room < plan.rooms; room++) {
                entry[room] = 1L << (WAIT_BITS * plan.width[room] + room);
            }
        }

        /** Takes the passes of a card and the gaps among the first n logs, and no sights yet. */
        private void lookAt(int card, int n) {
            openGaps(n);
            passes = 0;
            for (int log = 0; log < n; log++) {
                if (logs.isPassOf(log, card)) {
                    insertPass(log);
                }
            }
            for (int i = 0; i < passes; i++) {
                readPass(i);
            }
            Arrays.fill(seen, EVERYWHERE);
        }

        private void addSights(int card, int n) {
            for (int log = 0; log < n; log++) {
                if (logs.kind[log] == KIND_SIGHT && logs.card[log] == card) {
                    demand(logs.target[log], logs.tick[log]);
                }
            }
        }

        private void demand(int room, int tick) {
            seen[tick] &= ONE_ROOM << room;
        }

        /* Gaps are the same for all cards, so the row is kept while n stays. */
        private void openGaps(int n) {
            if (openBehind == n) {
                return;
            }
            openBehind = n;
            Arrays.fill(openDoors, 0);
            for (int log = 0; log < n; log++) {
                if (logs.kind[log] == KIND_GAP) {
                    openGap(logs.target[log], logs.tick[log], logs.more[log]);
                }
            }
        }

        private void openGap(int door, int from, int to) {
            int start = Math.max(from - plan.error[door], 0);
            int end = Math.min(to + plan.error[door], TICKS - 1);
            for (int tick = start; tick <= end; tick++) {
                openDoors[tick] |= 1 << door;
            }
        }

        /* Logs come by number, so one of a like tick goes behind those that are there. */
        private void insertPass(int log) {
            if (passes >= MOST_PASSES) {
                return;
            }
            int at = passes;
            while (at > 0 && logs.tick[passLog[at - 1]] > logs.tick[log]) {
                passLog[at] = passLog[at - 1];
                at--;
            }
            passLog[at] = log;
            passes++;
        }

        private void readPass(int i) {
            int log = passLog[i];
            int door = logs.target[log];
            leaves[i] = plan.roomLeft(door, logs.isBack(log));
            comesTo[i] = plan.roomComeTo(door, logs.isBack(log));
            soonest[i] = logs.tick[log] - plan.error[door];
            latest[i] = logs.tick[log] + plan.error[door];
        }

        private boolean isInTime(int pass, int tick) {
            return soonest[pass] <= tick && tick <= latest[pass];
        }

        /** Finds for each tick and stage from where a way can still be ended with all passes and sights. */
        private void findHopeful() {
            int last = TICKS - 1;
            for (int stage = 0; stage <= passes; stage++) {
                hopeful[last * STAGES + stage] = stage == passes ? seen[last] : 0;
            }
            for (int tick = last; tick > 0; tick--) {
                for (int stage = 0; stage <= passes; stage++) {
                    hopeful[(tick - 1) * STAGES + stage] = hopefulAhead(tick, stage) & seen[tick - 1];
                }
            }
        }

        /** From where, ahead of this tick, a hopeful place behind it is reached. */
        private long hopefulAhead(int tick, int stage) {
            long then = hopeful[tick * STAGES + stage];
            long from = 0;
            if (then != 0) {
                from = (then << WAIT_BITS & EVERYWHERE) | (then & FREE_TO_LEAVE);
                if (openDoors[tick] != 0) {
                    from |= freeInto(then, openDoors[tick]);
                }
            }
            if (stage < passes && isInTime(stage, tick)
                    && (hopeful[tick * STAGES + stage + 1] & entry[comesTo[stage]]) != 0) {
                from |= 1L << leaves[stage];
            }
            return from;
        }

        private long freeInto(long then, int open) {
            long from = 0;
            for (int door = 0; door < plan.doors; door++) {
                if ((open >>> door & 1) != 0) {
                    int a = plan.first[door];
                    int b = plan.second[door];
                    if ((then & entry[b]) != 0) {
                        from |= 1L << a;
                    }
                    if ((then & entry[a]) != 0) {
                        from |= 1L << b;
                    }
                }
            }
            return from;
        }

        private void startOutside() {
            Arrays.fill(now, 0);
            now[0] = 1L << OUTSIDE;
        }

        /* From the last stage down, so that a stage is still as it was when the one behind it needs it. */
        private void goOn(int tick) {
            for (int stage = passes; stage >= 0; stage--) {
                long here = now[stage];
                long next = 0;
                if (here != 0) {
                    next = here >>> WAIT_BITS | here & FREE_TO_LEAVE;
                    if (openDoors[tick] != 0) {
                        next |= freeOutOf(here, openDoors[tick]);
                    }
                }
                if (stage > 0 && isInTime(stage - 1, tick) && (now[stage - 1] >>> leaves[stage - 1] & 1) != 0) {
                    next |= entry[comesTo[stage - 1]];
                }
                now[stage] = next & seen[tick];
            }
        }

        private long freeOutOf(long here, int open) {
            long next = 0;
            for (int door = 0; door < plan.doors; door++) {
                if ((open >>> door & 1) != 0) {
                    int a = plan.first[door];
                    int b = plan.second[door];
                    if ((here >>> a & 1) != 0) {
                        next |= entry[b];
                    }
                    if ((here >>> b & 1) != 0) {
                        next |= entry[a];
                    }
                }
            }
            return next;
        }

        /** Writes for each tick the rooms that some way has, from the given index on. */
        private void findRooms(int[] row, int from) {
            findHopeful();
            startOutside();
            for (int tick = 0; tick < TICKS; tick++) {
                goOn(tick);
                long all = 0;
                for (int stage = 0; stage <= passes; stage++) {
                    now[stage] &= hopeful[tick * STAGES + stage];
                    all |= now[stage];
                }
                row[from + tick] = roomsIn(all);
            }
        }

        private static int roomsIn(long places) {
            int rooms = 0;
            for (int wait = 0; wait <= MOST_WIDTH; wait++) {
                rooms |= (int) (places >>> (WAIT_BITS * wait) & FREE_TO_LEAVE);
            }
            return rooms;
        }

        /* Staying is always possible without sights: whoever has gone by the first passes is somewhere at the end. */
        private int findBreak() {
            startOutside();
            for (int tick = 0; tick < TICKS && now[passes] == 0; tick++) {
                goOn(tick);
            }
            for (int stage = passes - 1; stage >= 0 && now[passes] == 0; stage--) {
                if (now[stage] != 0) {
                    return passLog[stage];
                }
            }
            return NONE;
        }

        /*
         * Along given rooms the wait is certain, but not by which passes one went: so all stages that fit are
         * kept while the least room is chosen that has one with hope.
         */
        private boolean findFirstWay(int[] row) {
            findHopeful();
            int room = OUTSIDE;
            int wait = 0;
            int stages = 1;
            for (int tick = 0; tick < TICKS; tick++) {
                int waitStaying = wait > 0 ? wait - 1 : 0;
                int next = NONE;
                int left = 0;
                for (int to = 0; to < plan.rooms && left == 0; to++) {
                    next = to;
                    if (to == room) {
                        left = withHope(tick, stages, 1L << (WAIT_BITS * waitStaying + room));
                    } else if (wait == 0) {
                        left = withHope(tick, stagesGoing(tick, stages, room, to), entry[to]);
                    }
                }
                if (left == 0) {
                    return false;
                }
                wait = next == room ? waitStaying : plan.width[next];
                room = next;
                stages = left;
                row[tick] = room;
            }
            return true;
        }

        private int stagesGoing(int tick, int stages, int from, int to) {
            int gone = isOpenBetween(openDoors[tick], from, to) ? stages : 0;
            for (int pass = 0; pass < passes; pass++) {
                if ((stages >>> pass & 1) != 0 && leaves[pass] == from && comesTo[pass] == to
                        && isInTime(pass, tick)) {
                    gone |= 1 << (pass + 1);
                }
            }
            return gone;
        }

        private boolean isOpenBetween(int open, int a, int b) {
            for (int door = 0; open != 0 && door < plan.doors; door++) {
                if ((open >>> door & 1) != 0
                        && (plan.first[door] == a && plan.second[door] == b
                        || plan.first[door] == b && plan.second[door] == a)) {
                    return true;
                }
            }
            return false;
        }

        private int withHope(int tick, int stages, long place) {
            int left = 0;
            for (int stage = 0; stage <= passes; stage++) {
                if ((stages >>> stage & 1) != 0 && (hopeful[tick * STAGES + stage] & place) != 0) {
                    left |= 1 << stage;
                }
            }
            return left;
        }
    }

    /*
     * Keeps what was found last. Logs are only ever added, so what was known of a card behind so many of them
     * stays true until there is a new building.
     */
    private static final class Known {
        private final LogBook logs;
        private final Walks walks;
        private final int[] roomsBehind = new int[MOST_CARDS];
        private final int[] rooms = new int[MOST_CARDS * TICKS];
        private int wayBehind = NONE;
        private int wayCard;
        private int wayTick;
        private int wayRoom;
        private boolean wayFound;
        private final int[] way = new int[TICKS];

        private Known(LogBook logs, Walks walks) {
            this.logs = logs;
            this.walks = walks;
        }

        private void forget() {
            walks.forget();
            Arrays.fill(roomsBehind, NONE);
            wayBehind = NONE;
        }

        private int roomsOf(int card, int tick, int n) {
            int telling = logs.tellingOf(card, n);
            if (roomsBehind[card] != telling) {
                walks.lookAt(card, n);
                walks.addSights(card, n);
                walks.findRooms(rooms, card * TICKS);
                roomsBehind[card] = telling;
            }
            return rooms[card * TICKS + tick];
        }

        private int breakOf(int card, int n) {
            walks.lookAt(card, n);
            return walks.findBreak();
        }

        private int roomOnFirstWay(int card, int tick, int room, int askedTick) {
            boolean kept = wayBehind == logs.size && wayCard == card && wayTick == tick && wayRoom == room;
            if (!kept) {
                walks.lookAt(card, logs.size);
                walks.addSights(card, logs.size);
                walks.demand(room, tick);
                wayFound = walks.findFirstWay(way);
                wayBehind = logs.size;
                wayCard = card;
                wayTick = tick;
                wayRoom = room;
            }
            return wayFound ? way[askedTick] : NONE;
        }
    }
}
