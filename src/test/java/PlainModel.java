import java.util.ArrayDeque;
import java.util.ArrayList;
import java.util.Deque;
import java.util.List;
import java.util.Map;
import java.util.TreeMap;
import java.util.TreeSet;
import java.util.regex.Matcher;
import java.util.regex.Pattern;

/**
 * The document once more, written with the Java library and in another way than the program:
 * a swap is a list of steps, states are copied anew, and a text's fault is found by its beginnings.
 */
final class PlainModel implements Tables {
    private static final int UNKNOWN = -1;
    private static final int BAD_VALUE = -2;
    private static final int FULL = -3;
    private static final int NOT_POSSIBLE = -4;
    private static final int NONE = -5;
    private static final int DROPPED = -5;

    private static final String ENTRY = "[0-7](?:=(?:0|[1-9][0-9]{0,2})|-)";
    private static final Pattern TEXT = Pattern.compile(ENTRY + "(?:," + ENTRY + ")*");

    private record Cell(int content, int seal, int wear) { }

    private record Table(int number, boolean torn, Map<Integer, Integer> cells) { }

    private record Step(int kind, int page) { }

    private static final class State {
        List<Cell> cells = new ArrayList<>();
        Table[] tables = {new Table(1, false, Map.of()), new Table(0, false, Map.of())};
        int mark = 0;
        TreeMap<Integer, Integer> desk = new TreeMap<>();
        List<Step> owed = null;
        int done = 0;
        TreeMap<Integer, Integer> written = new TreeMap<>();
        TreeMap<Integer, Table> readers = new TreeMap<>();
        int crashes = 0;
        int swaps = 0;

        State copy() {
            State c = new State();
            c.cells = new ArrayList<>(cells);
            c.tables = tables.clone();
            c.mark = mark;
            c.desk = new TreeMap<>(desk);
            c.owed = owed == null ? null : new ArrayList<>(owed);
            c.done = done;
            c.written = new TreeMap<>(written);
            c.readers = new TreeMap<>(readers);
            c.crashes = crashes;
            c.swaps = swaps;
            return c;
        }

        Table old() {
            return tables[mark];
        }

        TreeSet<Integer> free() {
            TreeSet<Integer> free = new TreeSet<>();
            for (int i = 0; i < 24; i++) {
                free.add(i);
            }
            free.removeAll(old().cells().values());
            free.removeAll(written.values());
            for (Table kept : readers.values()) {
                free.removeAll(kept.cells().values());
            }
            return free;
        }

        int target() {
            return free().stream().min((a, b) -> cells.get(a).wear() != cells.get(b).wear()
                ? Integer.compare(cells.get(a).wear(), cells.get(b).wear()) : Integer.compare(a, b)).orElse(NONE);
        }

        boolean stuck() {
            return owed.get(0).kind() == 0 && free().isEmpty();
        }

        void put(int cell, int content, int more) {
            cells.set(cell, new Cell(content, ((content * 37 + 11) % 101 + more) % 101, cells.get(cell).wear() + 1));
        }

        void putTable(boolean torn) {
            TreeMap<Integer, Integer> next = new TreeMap<>(old().cells());
            next.keySet().removeAll(desk.keySet());
            next.putAll(written);
            tables[1 - mark] = new Table(old().number() + 1, torn, next);
        }

        void doStep() {
            Step next = owed.remove(0);
            done++;
            if (next.kind() == 0) {
                int cell = target();
                put(cell, desk.get(next.page()), 0);
                written.put(next.page(), cell);
            } else if (next.kind() == 1) {
                putTable(false);
            } else {
                mark = 1 - mark;
                desk.clear();
                endSwap();
                swaps++;
            }
        }

        void endSwap() {
            owed = null;
            done = 0;
            written.clear();
        }
    }

    private State s = new State();
    private State snapshot = null;
    private final Deque<State> history = new ArrayDeque<>();
    private final StringBuilder text = new StringBuilder();

    PlainModel() {
        for (int i = 0; i < 24; i++) {
            s.cells.add(new Cell(0, 11, 0));
        }
    }

    private void record() {
        history.addLast(s.copy());
        if (history.size() > 4) {
            history.removeFirst();
        }
    }

    private static boolean page(int page) {
        return 0 <= page && page <= 7;
    }

    private int owedSteps() {
        return s.owed == null ? 0 : s.owed.size();
    }

    @Override
    public int write(int page, int content) {
        if (!page(page)) return UNKNOWN;
        if (content < 0 || content > 999) return BAD_VALUE;
        return put(page, content);
    }

    @Override
    public int drop(int page) {
        return page(page) ? put(page, DROPPED) : UNKNOWN;
    }

    private int put(int page, int content) {
        if (s.owed != null) return NOT_POSSIBLE;
        if (s.desk.containsKey(page) && s.desk.get(page) == content) return NONE;
        record();
        s.desk.put(page, content);
        return s.desk.size();
    }

    private int fault() {
        for (int i = 0; i < text.length(); i++) {
            Matcher m = TEXT.matcher(text.substring(0, i + 1));
            if (!m.matches() && !m.hitEnd()) return i;
        }
        return TEXT.matcher(text).matches() ? -1 : text.length();
    }

    @Override
    public int writeAll() {
        int fault = fault();
        if (fault >= 0) return -100 - fault;
        if (s.owed != null) return NOT_POSSIBLE;
        record();
        String[] entries = text.toString().split(",");
        for (String entry : entries) {
            s.desk.put(entry.charAt(0) - '0', entry.endsWith("-") ? DROPPED : Integer.parseInt(entry.substring(2)));
        }
        return entries.length;
    }

    @Override
    public int clear() {
        if (s.owed != null) return NOT_POSSIBLE;
        if (s.desk.isEmpty()) return NONE;
        record();
        int size = s.desk.size();
        s.desk.clear();
        return size;
    }

    @Override
    public int begin() {
        if (s.owed != null) return NOT_POSSIBLE;
        if (s.desk.isEmpty()) return NONE;
        record();
        s.owed = new ArrayList<>();
        s.desk.forEach((page, content) -> {
            if (content != DROPPED) s.owed.add(new Step(0, page));
        });
        s.owed.add(new Step(1, NONE));
        s.owed.add(new Step(2, NONE));
        return s.owed.size();
    }

    @Override
    public int step() {
        if (s.owed == null) return NONE;
        if (s.stuck()) return FULL;
        record();
        s.doStep();
        return owedSteps();
    }

    @Override
    public int finish() {
        if (s.owed == null) return NONE;
        if (s.stuck()) return FULL;
        record();
        while (s.owed != null && !s.stuck()) {
            s.doStep();
        }
        return owedSteps();
    }

    @Override
    public int giveUp() {
        if (s.owed == null) return NONE;
        record();
        int done = s.done;
        s.endSwap();
        return done;
    }

    @Override
    public int crash(boolean torn) {
        record();
        if (torn && s.owed != null) {
            Step next = s.owed.get(0);
            if (next.kind() == 0 && s.target() != NONE) s.put(s.target(), s.desk.get(next.page()), 1);
            if (next.kind() == 1) s.putTable(true);
        }
        s.desk.clear();
        s.endSwap();
        s.readers.clear();
        s.crashes++;
        return s.old().number();
    }

    @Override
    public int open() {
        for (int i = 0; i < 4; i++) {
            if (!s.readers.containsKey(i)) {
                record();
                s.readers.put(i, s.old());
                return i;
            }
        }
        return FULL;
    }

    @Override
    public int close(int reader) {
        if (!s.readers.containsKey(reader)) return UNKNOWN;
        record();
        s.readers.remove(reader);
        return s.readers.size();
    }

    @Override
    public int type(char character) {
        if (text.length() == 60) return FULL;
        return text.append(character).length();
    }

    @Override
    public int clearText() {
        int length = text.length();
        text.setLength(0);
        return length;
    }

    @Override
    public int undo() {
        if (history.isEmpty()) return NONE;
        s = history.removeLast();
        return history.size();
    }

    @Override
    public int keep() {
        snapshot = s.copy();
        return s.old().number();
    }

    @Override
    public int restore() {
        if (snapshot == null) return NONE;
        record();
        s = snapshot.copy();
        return s.old().number();
    }

    private int by(Table table, int page) {
        Integer cell = table.cells().get(page);
        return cell == null ? NONE : s.cells.get(cell).content();
    }

    @Override
    public int read(int page) {
        return page(page) ? by(s.old(), page) : UNKNOWN;
    }

    @Override
    public int readDesk(int page) {
        if (!page(page)) return UNKNOWN;
        return s.desk.containsKey(page) ? s.desk.get(page) : by(s.old(), page);
    }

    @Override
    public int readBy(int reader, int page) {
        return s.readers.containsKey(reader) && page(page) ? by(s.readers.get(reader), page) : UNKNOWN;
    }

    private static int keyOf(Map<Integer, Integer> map, int value) {
        return map.entrySet().stream().filter(e -> e.getValue() == value).map(Map.Entry::getKey).findFirst().orElse(NONE);
    }

    @Override
    public int cell(int cell, int what) {
        if (cell < 0 || cell > 23) return UNKNOWN;
        Cell c = s.cells.get(cell);
        return switch (what) {
            case 0 -> c.content();
            case 1 -> c.seal();
            case 2 -> c.seal() == (c.content() * 37 + 11) % 101 ? 0 : 1;
            case 3 -> c.wear();
            case 4 -> s.free().contains(cell) ? 1 : 0;
            case 5 -> keyOf(s.old().cells(), cell);
            case 6 -> (int) s.readers.values().stream().filter(t -> t.cells().containsValue(cell)).count();
            case 7 -> keyOf(s.written, cell);
            default -> BAD_VALUE;
        };
    }

    @Override
    public int table(int table, int what) {
        if (table != 0 && table != 1) return UNKNOWN;
        Table t = s.tables[table];
        if (what == 0) return t.number();
        if (what == 1) return t.torn() ? 1 : 0;
        if (what == 2) return table == s.mark ? 1 : 0;
        if (what == 3) return t.cells().keySet().stream().mapToInt(p -> 1 << p).sum();
        return what >= 10 && what <= 17 ? t.cells().getOrDefault(what - 10, NONE) : BAD_VALUE;
    }

    @Override
    public int owed(int place, int what) {
        if (place < 0 || what < 0 || what > 1) return BAD_VALUE;
        if (place >= owedSteps()) return NONE;
        return what == 0 ? s.owed.get(place).kind() : s.owed.get(place).page();
    }

    @Override
    public int reader(int reader) {
        return s.readers.containsKey(reader) ? s.readers.get(reader).number() : UNKNOWN;
    }

    @Override
    public double unevenness() {
        return (double) count(10) - (double) count(11) / 24.0;
    }

    @Override
    public int unevennessBits() {
        return Float.floatToIntBits((float) unevenness());
    }

    private int readersOnly() {
        TreeSet<Integer> cells = new TreeSet<>();
        s.readers.values().forEach(t -> cells.addAll(t.cells().values()));
        cells.removeAll(s.old().cells().values());
        cells.removeAll(s.written.values());
        return cells.size();
    }

    @Override
    public int count(int what) {
        return switch (what) {
            case 0 -> s.old().number();
            case 1 -> s.mark;
            case 2 -> s.old().cells().size();
            case 3 -> s.desk.size();
            case 4 -> owedSteps();
            case 5 -> s.done;
            case 6 -> s.free().size();
            case 7 -> (int) s.cells.stream().filter(c -> c.seal() != (c.content() * 37 + 11) % 101).count();
            case 8 -> s.readers.size();
            case 9 -> s.crashes;
            case 10 -> s.cells.stream().mapToInt(Cell::wear).max().getAsInt();
            case 11 -> s.cells.stream().mapToInt(Cell::wear).sum();
            case 12 -> readersOnly();
            case 13 -> s.swaps;
            case 14 -> history.size();
            case 15 -> text.length();
            case 16 -> s.owed == null ? 0 : (int) s.owed.stream().filter(o -> o.kind() == 0).count();
            default -> BAD_VALUE;
        };
    }
}
