/** Pages that are kept in two generations and swapped whole; ../shared/DOC.md says what each call promises. */
public final class SwappedTables {
    public static final int UNKNOWN = -1;
    public static final int BAD_VALUE = -2;
    public static final int FULL = -3;
    public static final int NOT_POSSIBLE = -4;
    public static final int NONE = -5;

    private static final int CELLS = 24;
    private static final int PAGES = 8;
    private static final int READERS = 4;
    private static final int GREATEST_CONTENT = 999;
    private static final int SEALS = 101;
    private static final int TEXT_ROOM = 60;
    private static final int HISTORY_ROOM = 4;
    // The shortest entry is a page and "-", and a "," stands between two of them.
    private static final int MOST_ENTRIES = (TEXT_ROOM + 2) / 3;
    private static final int FAULT_BASE = -100;
    private static final int FIRST_PAGE_QUESTION = 10;

    // A swap owes the table and the mark behind its cells.
    private static final int STEPS_BEHIND_CELLS = 2;
    private static final int WRITES_CELL = 0;
    private static final int WRITES_TABLE = 1;
    private static final int SETS_MARK = 2;

    private final State now = new State();
    private final State snapshot = new State();
    private final History history = new History();
    private final PageText text = new PageText();
    private boolean hasSnapshot;

    public SwappedTables() {
        hasSnapshot = false;
    }

    // ---- the desk

    public int write(int page, int content) {
        if (!isPage(page)) {
            return UNKNOWN;
        }
        if (content < 0 || content > GREATEST_CONTENT) {
            return BAD_VALUE;
        }
        return tellDesk(page, content);
    }

    public int drop(int page) {
        if (!isPage(page)) {
            return UNKNOWN;
        }
        return tellDesk(page, Desk.DROPPED);
    }

    private int tellDesk(int page, int told) {
        if (now.swap.goesOn()) {
            return NOT_POSSIBLE;
        }
        if (now.desk.toldOf(page) == told) {
            return NONE;
        }
        history.record(now);
        now.desk.tell(page, told);
        return now.desk.pagesTold();
    }

    public int writeAll() {
        int fault = text.scan();
        if (fault != PageText.NO_FAULT) {
            return FAULT_BASE - fault;
        }
        if (now.swap.goesOn()) {
            return NOT_POSSIBLE;
        }
        history.record(now);
        int entries = text.entries();
        for (int i = 0; i < entries; i++) {
            now.desk.tell(text.pageOfEntry(i), text.toldByEntry(i));
        }
        return entries;
    }

    public int clear() {
        if (now.swap.goesOn()) {
            return NOT_POSSIBLE;
        }
        int pages = now.desk.pagesTold();
        if (pages == 0) {
            return NONE;
        }
        history.record(now);
        now.desk.empty();
        return pages;
    }

    // ---- swaps

    public int begin() {
        if (now.swap.goesOn()) {
            return NOT_POSSIBLE;
        }
        if (now.desk.pagesTold() == 0) {
            return NONE;
        }
        history.record(now);
        now.swap.start();
        return now.stepsOwed();
    }

    public int step() {
        if (!now.swap.goesOn()) {
            return NONE;
        }
        if (!now.canGoOn()) {
            return FULL;
        }
        history.record(now);
        now.goOn();
        return now.stepsOwed();
    }

    public int finish() {
        if (!now.swap.goesOn()) {
            return NONE;
        }
        if (!now.canGoOn()) {
            return FULL;
        }
        history.record(now);
        int owed = now.stepsOwed();
        for (int i = 0; i < owed && now.canGoOn(); i++) {
            now.goOn();
        }
        return now.stepsOwed();
    }

    public int giveUp() {
        if (!now.swap.goesOn()) {
            return NONE;
        }
        history.record(now);
        int done = now.swap.stepsDone();
        now.swap.end();
        return done;
    }

    // ---- crashes, readers

    public int crash(boolean torn) {
        history.record(now);
        if (torn) {
            now.tearNextStep();
        }
        now.loseWhatCrashesLose();
        return now.oldGeneration().number();
    }

    public int open() {
        int reader = now.readers.lowestFree();
        if (reader == NONE) {
            return FULL;
        }
        history.record(now);
        now.readers.admit(reader, now.oldGeneration());
        return reader;
    }

    public int close(int reader) {
        if (!now.readers.has(reader)) {
            return UNKNOWN;
        }
        history.record(now);
        now.readers.dismiss(reader);
        return now.readers.howMany();
    }

    // ---- texts

    public int type(char character) {
        if (text.isFull()) {
            return FULL;
        }
        text.append(character);
        return text.length();
    }

    public int clearText() {
        int length = text.length();
        text.empty();
        return length;
    }

    // ---- history

    public int undo() {
        if (history.states() == 0) {
            return NONE;
        }
        history.takeLatest(now);
        return history.states();
    }

    public int keep() {
        snapshot.copyFrom(now);
        hasSnapshot = true;
        return now.oldGeneration().number();
    }

    public int restore() {
        if (!hasSnapshot) {
            return NONE;
        }
        history.record(now);
        now.copyFrom(snapshot);
        return now.oldGeneration().number();
    }

    // ---- what is told

    public int read(int page) {
        if (!isPage(page)) {
            return UNKNOWN;
        }
        return now.contentByOld(page);
    }

    public int readDesk(int page) {
        if (!isPage(page)) {
            return UNKNOWN;
        }
        return now.contentByDesk(page);
    }

    public int readBy(int reader, int page) {
        if (!now.readers.has(reader) || !isPage(page)) {
            return UNKNOWN;
        }
        return now.cells.contentOf(now.readers.cellOf(reader, page));
    }

    public int cell(int cell, int what) {
        if (!isCell(cell)) {
            return UNKNOWN;
        }
        switch (what) {
            case 0: return now.cells.contentOf(cell);
            case 1: return now.cells.sealIn(cell);
            case 2: return asNumber(now.cells.isTorn(cell));
            case 3: return now.cells.wearOf(cell);
            case 4: return asNumber(now.isFree(cell));
            case 5: return now.oldGeneration().pageWith(cell);
            case 6: return now.readers.howManyWith(cell);
            case 7: return now.swap.pageWrittenTo(cell);
            default: return BAD_VALUE;
        }
    }

    public int table(int table, int what) {
        if (table != 0 && table != 1) {
            return UNKNOWN;
        }
        Generation told = now.tableAt(table);
        switch (what) {
            case 0: return told.number();
            case 1: return asNumber(told.isTorn());
            case 2: return asNumber(table == now.mark());
            case 3: return told.pageSet();
            default: break;
        }
        if (what < FIRST_PAGE_QUESTION || what >= FIRST_PAGE_QUESTION + PAGES) {
            return BAD_VALUE;
        }
        return told.cellOf(what - FIRST_PAGE_QUESTION);
    }

    public int owed(int place, int what) {
        if (place < 0 || what < 0 || what > 1) {
            return BAD_VALUE;
        }
        if (place >= now.stepsOwed()) {
            return NONE;
        }
        return what == 0 ? now.kindOwedAt(place) : now.pageOwedAt(place);
    }

    public int reader(int reader) {
        if (!now.readers.has(reader)) {
            return UNKNOWN;
        }
        return now.readers.numberOf(reader);
    }

    public double unevenness() {
        return (double) now.cells.greatestWear() - (double) now.cells.allWear() / 24.0;
    }

    public int unevennessBits() {
        return bitsOf((float) unevenness());
    }

    public int count(int what) {
        switch (what) {
            case 0: return now.oldGeneration().number();
            case 1: return now.mark();
            case 2: return now.oldGeneration().pages();
            case 3: return now.desk.pagesTold();
            case 4: return now.stepsOwed();
            case 5: return now.swap.stepsDone();
            case 6: return now.freeCells();
            case 7: return now.cells.tornCells();
            case 8: return now.readers.howMany();
            case 9: return now.crashes();
            case 10: return now.cells.greatestWear();
            case 11: return now.cells.allWear();
            case 12: return now.cellsOfReadersOnly();
            case 13: return now.swaps();
            case 14: return history.states();
            case 15: return text.length();
            case 16: return now.cellsOwed();
            default: return BAD_VALUE;
        }
    }

    private static boolean isPage(int page) {
        return page >= 0 && page < PAGES;
    }

    private static boolean isCell(int cell) {
        return cell >= 0 && cell < CELLS;
    }

    private static int asNumber(boolean yes) {
        return yes ? 1 : 0;
    }

    private static void fillInts(int[] row, int number) {
        for (int i = 0; i < row.length; i++) {
            row[i] = number;
        }
    }

    private static void copyInts(int[] from, int[] to) {
        for (int i = 0; i < from.length && i < to.length; i++) {
            to[i] = from[i];
        }
    }

    /**
     * Float.floatToIntBits, which LANGUAGE.md does not list, for 0 and for the floats from 2^-126 up:
     * halving and doubling lose nothing there, and unevenness is never less than 0 nor so small.
     */
    private static int bitsOf(float value) {
        if (!(value > 0.0f)) {
            return 0;
        }
        float significand = value;
        int exponent = 127;
        while (significand >= 2.0f && exponent < 254) {
            significand = significand / 2.0f;
            exponent++;
        }
        while (significand < 1.0f && exponent > 1) {
            significand = significand * 2.0f;
            exponent--;
        }
        int fraction = (int) ((significand - 1.0f) * 8388608.0f);
        return (exponent << 23) | fraction;
    }

    private static final class Cells {
        private final int[] contents = new int[CELLS];
        private final int[] seals = new int[CELLS];
        private final int[] wears = new int[CELLS];

        Cells() {
            fillInts(seals, sealOf(0));
        }

        private static int sealOf(int content) {
            return (content * 37 + 11) % SEALS;
        }

        void put(int cell, int content, boolean torn) {
            if (!isCell(cell)) {
                return;
            }
            int seal = sealOf(content);
            contents[cell] = content;
            seals[cell] = torn ? (seal + 1) % SEALS : seal;
            wears[cell]++;
        }

        /** NONE for a cell that is none, so that a page without a cell reads as NONE. */
        int contentOf(int cell) {
            return isCell(cell) ? contents[cell] : NONE;
        }

        int sealIn(int cell) {
            return isCell(cell) ? seals[cell] : NONE;
        }

        int wearOf(int cell) {
            return isCell(cell) ? wears[cell] : 0;
        }

        boolean isTorn(int cell) {
            return isCell(cell) && seals[cell] != sealOf(contents[cell]);
        }

        int tornCells() {
            int torn = 0;
            for (int i = 0; i < CELLS; i++) {
                if (isTorn(i)) {
                    torn++;
                }
            }
            return torn;
        }

        int greatestWear() {
            int greatest = 0;
            for (int i = 0; i < CELLS; i++) {
                greatest = wears[i] > greatest ? wears[i] : greatest;
            }
            return greatest;
        }

        int allWear() {
            int all = 0;
            for (int i = 0; i < CELLS; i++) {
                all += wears[i];
            }
            return all;
        }

        void copyFrom(Cells other) {
            copyInts(other.contents, contents);
            copyInts(other.seals, seals);
            copyInts(other.wears, wears);
        }
    }

    /** What a table of the store tells, or what a reader keeps of one: a number, and a cell or NONE for each page. */
    private static final class Generation {
        private int number;
        private boolean torn;
        private final int[] cells = new int[PAGES];

        Generation(int firstNumber) {
            number = firstNumber;
            torn = false;
            fillInts(cells, NONE);
        }

        int number() {
            return number;
        }

        boolean isTorn() {
            return torn;
        }

        void become(int newNumber, boolean nowTorn) {
            number = newNumber;
            torn = nowTorn;
        }

        int cellOf(int page) {
            return isPage(page) ? cells[page] : NONE;
        }

        void give(int page, int cell) {
            if (isPage(page)) {
                cells[page] = cell;
            }
        }

        int pageWith(int cell) {
            for (int i = 0; i < PAGES; i++) {
                if (cells[i] == cell) {
                    return i;
                }
            }
            return NONE;
        }

        int pageSet() {
            int set = 0;
            for (int i = 0; i < PAGES; i++) {
                if (cells[i] != NONE) {
                    set |= 1 << i;
                }
            }
            return set;
        }

        int pages() {
            return Integer.bitCount(pageSet());
        }

        void copyFrom(Generation other) {
            number = other.number;
            torn = other.torn;
            copyInts(other.cells, cells);
        }
    }

    /** What is written aside: for each page a content, DROPPED or UNTOLD. */
    private static final class Desk {
        // Reading a dropped page answers NONE, so the desk keeps just that for it.
        private static final int DROPPED = NONE;
        private static final int UNTOLD = -1;

        private final int[] told = new int[PAGES];

        Desk() {
            fillInts(told, UNTOLD);
        }

        int toldOf(int page) {
            return isPage(page) ? told[page] : UNTOLD;
        }

        boolean tellsOf(int page) {
            return toldOf(page) != UNTOLD;
        }

        void tell(int page, int what) {
            if (isPage(page)) {
                told[page] = what;
            }
        }

        void empty() {
            fillInts(told, UNTOLD);
        }

        int pagesTold() {
            int pages = 0;
            for (int i = 0; i < PAGES; i++) {
                if (told[i] != UNTOLD) {
                    pages++;
                }
            }
            return pages;
        }

        int contents() {
            int contents = 0;
            for (int i = 0; i < PAGES; i++) {
                if (told[i] >= 0) {
                    contents++;
                }
            }
            return contents;
        }

        /** The page of the content with this place among the contents, by ascending pages; NONE without. */
        int pageOfContent(int place) {
            int before = 0;
            for (int i = 0; i < PAGES; i++) {
                if (told[i] >= 0) {
                    if (before == place) {
                        return i;
                    }
                    before++;
                }
            }
            return NONE;
        }

        void copyFrom(Desk other) {
            copyInts(other.told, told);
        }
    }

    /** How far a swap has gone; what it owes follows from the desk, which stays as it is meanwhile. */
    private static final class Swap {
        private boolean on;
        private int done;
        private final int[] written = new int[PAGES];

        Swap() {
            on = false;
            done = 0;
            fillInts(written, NONE);
        }

        boolean goesOn() {
            return on;
        }

        int stepsDone() {
            return done;
        }

        void start() {
            on = true;
        }

        void end() {
            on = false;
            done = 0;
            fillInts(written, NONE);
        }

        void countStep() {
            done++;
        }

        void noteWritten(int page, int cell) {
            if (isPage(page)) {
                written[page] = cell;
            }
        }

        int cellWrittenFor(int page) {
            return isPage(page) ? written[page] : NONE;
        }

        int pageWrittenTo(int cell) {
            for (int i = 0; i < PAGES; i++) {
                if (written[i] == cell) {
                    return i;
                }
            }
            return NONE;
        }

        void copyFrom(Swap other) {
            on = other.on;
            done = other.done;
            copyInts(other.written, written);
        }
    }

    /** The readers, each with the generation that it keeps. */
    private static final class Readers {
        private final boolean[] present = new boolean[READERS];
        private final Generation[] kept = new Generation[READERS];

        Readers() {
            for (int i = 0; i < READERS; i++) {
                kept[i] = new Generation(0);
            }
        }

        boolean has(int reader) {
            return reader >= 0 && reader < READERS && present[reader];
        }

        int lowestFree() {
            for (int i = 0; i < READERS; i++) {
                if (!present[i]) {
                    return i;
                }
            }
            return NONE;
        }

        int howMany() {
            int many = 0;
            for (int i = 0; i < READERS; i++) {
                if (present[i]) {
                    many++;
                }
            }
            return many;
        }

        int howManyWith(int cell) {
            int many = 0;
            for (int i = 0; i < READERS; i++) {
                if (present[i] && kept[i].pageWith(cell) != NONE) {
                    many++;
                }
            }
            return many;
        }

        void admit(int reader, Generation generation) {
            if (reader >= 0 && reader < READERS) {
                present[reader] = true;
                kept[reader].copyFrom(generation);
            }
        }

        void dismiss(int reader) {
            if (reader >= 0 && reader < READERS) {
                present[reader] = false;
            }
        }

        void dismissAll() {
            for (int i = 0; i < READERS; i++) {
                present[i] = false;
            }
        }

        int numberOf(int reader) {
            return has(reader) ? kept[reader].number() : NONE;
        }

        int cellOf(int reader, int page) {
            return has(reader) ? kept[reader].cellOf(page) : NONE;
        }

        void copyFrom(Readers other) {
            for (int i = 0; i < READERS; i++) {
                present[i] = other.present[i];
                kept[i].copyFrom(other.kept[i]);
            }
        }
    }

    /** Everything that the history and the snapshot keep. */
    private static final class State {
        private final Cells cells = new Cells();
        private final Generation firstTable = new Generation(1);
        private final Generation secondTable = new Generation(0);
        private final Desk desk = new Desk();
        private final Swap swap = new Swap();
        private final Readers readers = new Readers();
        private int mark;
        private int crashes;
        private int swaps;

        State() {
            mark = 0;
            crashes = 0;
            swaps = 0;
        }

        int mark() {
            return mark;
        }

        int crashes() {
            return crashes;
        }

        int swaps() {
            return swaps;
        }

        Generation tableAt(int table) {
            return table == 0 ? firstTable : secondTable;
        }

        Generation oldGeneration() {
            return tableAt(mark);
        }

        int contentByOld(int page) {
            return cells.contentOf(oldGeneration().cellOf(page));
        }

        int contentByDesk(int page) {
            return desk.tellsOf(page) ? desk.toldOf(page) : contentByOld(page);
        }

        boolean isFree(int cell) {
            return oldGeneration().pageWith(cell) == NONE
                && readers.howManyWith(cell) == 0
                && swap.pageWrittenTo(cell) == NONE;
        }

        int freeCells() {
            int free = 0;
            for (int i = 0; i < CELLS; i++) {
                if (isFree(i)) {
                    free++;
                }
            }
            return free;
        }

        int cellsOfReadersOnly() {
            int only = 0;
            for (int i = 0; i < CELLS; i++) {
                if (readers.howManyWith(i) > 0
                    && oldGeneration().pageWith(i) == NONE
                    && swap.pageWrittenTo(i) == NONE) {
                    only++;
                }
            }
            return only;
        }

        /** The cell that a step would write now: the free one with the least wear, the lowest of several, or NONE. */
        private int cellToWrite() {
            int best = NONE;
            for (int i = 0; i < CELLS; i++) {
                if (isFree(i) && (best == NONE || cells.wearOf(i) < cells.wearOf(best))) {
                    best = i;
                }
            }
            return best;
        }

        int stepsOwed() {
            return swap.goesOn() ? desk.contents() + STEPS_BEHIND_CELLS - swap.stepsDone() : 0;
        }

        int cellsOwed() {
            int owed = stepsOwed() - STEPS_BEHIND_CELLS;
            return owed > 0 ? owed : 0;
        }

        /** For a place among the steps that are owed. */
        int kindOwedAt(int place) {
            if (place < cellsOwed()) {
                return WRITES_CELL;
            }
            return place == stepsOwed() - 1 ? SETS_MARK : WRITES_TABLE;
        }

        /** For a place among the steps that are owed. */
        int pageOwedAt(int place) {
            if (kindOwedAt(place) != WRITES_CELL) {
                return NONE;
            }
            return desk.pageOfContent(swap.stepsDone() + place);
        }

        boolean canGoOn() {
            return swap.goesOn() && (kindOwedAt(0) != WRITES_CELL || cellToWrite() != NONE);
        }

        void goOn() {
            switch (kindOwedAt(0)) {
                case WRITES_CELL:
                    writeOwedCell();
                    break;
                case WRITES_TABLE:
                    writeNewTable(false);
                    swap.countStep();
                    break;
                default:
                    setMark();
                    break;
            }
        }

        private void writeOwedCell() {
            int page = desk.pageOfContent(swap.stepsDone());
            int cell = cellToWrite();
            cells.put(cell, desk.toldOf(page), false);
            swap.noteWritten(page, cell);
            swap.countStep();
        }

        private void writeNewTable(boolean torn) {
            Generation old = oldGeneration();
            Generation next = tableAt(1 - mark);
            next.become(old.number() + 1, torn);
            for (int i = 0; i < PAGES; i++) {
                // A dropped page was not written for, so this gives it NONE.
                next.give(i, desk.tellsOf(i) ? swap.cellWrittenFor(i) : old.cellOf(i));
            }
        }

        private void setMark() {
            mark = 1 - mark;
            swaps++;
            desk.empty();
            swap.end();
        }

        /** Must come before the readers are gone: they still keep their cells from being written. */
        void tearNextStep() {
            if (!swap.goesOn()) {
                return;
            }
            int kind = kindOwedAt(0);
            if (kind == WRITES_CELL) {
                int page = desk.pageOfContent(swap.stepsDone());
                cells.put(cellToWrite(), desk.toldOf(page), true);
            } else if (kind == WRITES_TABLE) {
                writeNewTable(true);
            }
        }

        void loseWhatCrashesLose() {
            desk.empty();
            swap.end();
            readers.dismissAll();
            crashes++;
        }

        void copyFrom(State other) {
            cells.copyFrom(other.cells);
            firstTable.copyFrom(other.firstTable);
            secondTable.copyFrom(other.secondTable);
            desk.copyFrom(other.desk);
            swap.copyFrom(other.swap);
            readers.copyFrom(other.readers);
            mark = other.mark;
            crashes = other.crashes;
            swaps = other.swaps;
        }
    }

    /** The latest states; its rows go round, so that recording makes no object. */
    private static final class History {
        private final State[] rows = new State[HISTORY_ROOM];
        private int oldest;
        private int many;

        History() {
            oldest = 0;
            many = 0;
            for (int i = 0; i < HISTORY_ROOM; i++) {
                rows[i] = new State();
            }
        }

        int states() {
            return many;
        }

        void record(State state) {
            rows[Math.floorMod(oldest + many, HISTORY_ROOM)].copyFrom(state);
            if (many < HISTORY_ROOM) {
                many++;
            } else {
                oldest = Math.floorMod(oldest + 1, HISTORY_ROOM);
            }
        }

        void takeLatest(State into) {
            if (many > 0) {
                many--;
                into.copyFrom(rows[Math.floorMod(oldest + many, HISTORY_ROOM)]);
            }
        }
    }

    /** The text, and the entries that were found when it was scanned last. */
    private static final class PageText {
        private static final int NO_FAULT = -1;

        // What may stand at the next place of a text.
        private static final int PAGE = 0;
        private static final int SIGN = 1;
        private static final int FIRST_DIGIT = 2;
        private static final int SECOND_DIGIT_OR_COMMA = 3;
        private static final int THIRD_DIGIT_OR_COMMA = 4;
        private static final int COMMA = 5;
        private static final int REFUSED = 6;

        private final char[] characters = new char[TEXT_ROOM];
        private int length;
        private final int[] pages = new int[MOST_ENTRIES];
        private final int[] told = new int[MOST_ENTRIES];
        private int entries;

        PageText() {
            length = 0;
            entries = 0;
        }

        int length() {
            return length;
        }

        boolean isFull() {
            return length >= TEXT_ROOM;
        }

        void append(char character) {
            if (length >= 0 && length < TEXT_ROOM) {
                characters[length] = character;
                length++;
            }
        }

        void empty() {
            length = 0;
        }

        int entries() {
            return entries;
        }

        int pageOfEntry(int entry) {
            return entry >= 0 && entry < MOST_ENTRIES ? pages[entry] : NONE;
        }

        int toldByEntry(int entry) {
            return entry >= 0 && entry < MOST_ENTRIES ? told[entry] : Desk.UNTOLD;
        }

        /** Finds the entries; answers the fault, or NO_FAULT. */
        int scan() {
            entries = 0;
            int due = PAGE;
            for (int i = 0; i < length && i < TEXT_ROOM; i++) {
                int next = dueBehind(due, characters[i]);
                if (next == REFUSED) {
                    return i;
                }
                note(due, characters[i]);
                due = next;
            }
            return due == SECOND_DIGIT_OR_COMMA || due == THIRD_DIGIT_OR_COMMA || due == COMMA ? NO_FAULT : length;
        }

        private static int dueBehind(int due, char character) {
            boolean digit = character >= '0' && character <= '9';
            switch (due) {
                case PAGE:
                    return character >= '0' && character <= '7' ? SIGN : REFUSED;
                case SIGN:
                    return character == '=' ? FIRST_DIGIT : character == '-' ? COMMA : REFUSED;
                case FIRST_DIGIT:
                    return character == '0' ? COMMA : digit ? SECOND_DIGIT_OR_COMMA : REFUSED;
                case SECOND_DIGIT_OR_COMMA:
                    return digit ? THIRD_DIGIT_OR_COMMA : character == ',' ? PAGE : REFUSED;
                case THIRD_DIGIT_OR_COMMA:
                    return digit ? COMMA : character == ',' ? PAGE : REFUSED;
                default:
                    return character == ',' ? PAGE : REFUSED;
            }
        }

        private void note(int due, char character) {
            if (due == PAGE) {
                startEntry(character - '0');
            } else if (character >= '0' && character <= '9') {
                addDigit(character - '0');
            }
        }

        /** Told to be dropped until a digit comes. */
        private void startEntry(int page) {
            if (entries >= 0 && entries < MOST_ENTRIES) {
                pages[entries] = page;
                told[entries] = Desk.DROPPED;
                entries++;
            }
        }

        private void addDigit(int digit) {
            int last = entries - 1;
            if (last >= 0 && last < MOST_ENTRIES) {
                told[last] = told[last] == Desk.DROPPED ? digit : told[last] * 10 + digit;
            }
        }
    }
}
