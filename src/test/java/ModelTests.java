import java.util.ArrayDeque;
import java.util.Deque;

/** Long mixed runs, each answer of which is compared with that of PlainModel. */
public final class ModelTests {
    private static final int RUNS = 4000;
    // With the 283 calls that ask everything these are the 512 that the document promises.
    private static final int CALLS = 229;
    // Two entries of five characters with a comma between, and the calls before and behind them.
    private static final int LONGEST_TEXT = 13;
    private static final String SIGNS = "0123456789=-,";

    private final CountedTables x = new CountedTables();
    private final PlainModel model = new PlainModel();
    private final Deque<String> latest = new ArrayDeque<>();
    private final int run;
    private long seed;
    private boolean right = true;
    private static int full = 0;

    private ModelTests(int run) {
        this.run = run;
        this.seed = run * 7919L + 17;
    }

    public static void main(String[] args) {
        int wrong = 0;
        for (int run = 0; run < RUNS && wrong < 5; run++) {
            ModelTests test = new ModelTests(run);
            test.go();
            wrong += test.right ? 0 : 1;
        }
        if (full == 0) {
            wrong++;
            System.out.println("no run came to a step without a free cell");
        }
        System.out.println("ModelTests: " + RUNS + " runs, " + wrong + " wrong, FULL was due " + full + " times");
        if (wrong != 0) {
            System.exit(1);
        }
    }

    /** The same numbers in every run of the tests. */
    private int below(int bound) {
        seed = seed * 6364136223846793005L + 1442695040888963407L;
        return (int) ((seed >>> 33) % bound);
    }

    private int value(int from, int to) {
        int odd = below(60);
        if (odd == 0) {
            return from - 1 - below(3);
        }
        if (odd == 1) {
            return to + 1 + below(3);
        }
        if (odd == 2) {
            return below(2) == 0 ? Integer.MIN_VALUE : Integer.MAX_VALUE;
        }
        return from + below(to - from + 1);
    }

    private void due(String call, long got, long want) {
        latest.addLast(call + " -> " + want);
        if (got != want && right) {
            right = false;
            System.out.println("run " + run + ": " + latest + ": answered " + got);
        }
    }

    private void go() {
        int leaning = run % 4;
        while (x.calls() < CALLS && right) {
            if (leaning == 1) {
                actForFull();
            } else if (leaning == 2 && below(2) == 0 && x.calls() + LONGEST_TEXT <= CALLS) {
                typeText();
            } else {
                act(below(24));
            }
            if (below(3) == 0 && x.calls() < CALLS) {
                ask(below(10));
            }
        }
        askEverything();
        if (right && x.calls() != 512) {
            right = false;
            System.out.println("run " + run + " made " + x.calls() + " calls");
        }
    }

    /** Many pages, swaps and readers, and few that end, so that cells get scarce. */
    private void actForFull() {
        int kind = below(16);
        if (kind < 8) {
            act(0);
        } else if (kind < 9) {
            act(5);
        } else if (kind < 11) {
            act(6);
        } else if (kind < 14) {
            act(8);
        } else if (kind < 15) {
            act(12);
        } else {
            act(below(24));
        }
    }

    private void act(int kind) {
        int page = value(0, 7);
        int content = below(3) == 0 ? below(3) : value(0, 999);
        int reader = value(0, 3);
        boolean torn = below(4) != 0;
        char sign = below(40) == 0 ? (char) below(65536) : SIGNS.charAt(below(SIGNS.length()));
        switch (kind) {
            case 0: case 1: case 2:
                due("write(" + page + ", " + content + ")", x.write(page, content), model.write(page, content));
                break;
            case 3:
                due("drop(" + page + ")", x.drop(page), model.drop(page));
                break;
            case 4:
                due("writeAll()", x.writeAll(), model.writeAll());
                break;
            case 5: case 21:
                due("begin()", x.begin(), model.begin());
                break;
            case 6: case 7: case 22: case 23:
                int left = model.step();
                full += left == -3 ? 1 : 0;
                due("step()", x.step(), left);
                break;
            case 8:
                due("finish()", x.finish(), model.finish());
                break;
            case 9:
                due("giveUp()", x.giveUp(), model.giveUp());
                break;
            case 10: case 11:
                due("crash(" + torn + ")", x.crash(torn), model.crash(torn));
                break;
            case 12: case 13:
                due("open()", x.open(), model.open());
                break;
            case 14:
                due("close(" + reader + ")", x.close(reader), model.close(reader));
                break;
            case 15:
                due("type(" + (int) sign + ")", x.type(sign), model.type(sign));
                break;
            case 16:
                due("clearText()", x.clearText(), model.clearText());
                break;
            case 17:
                due("undo()", x.undo(), model.undo());
                break;
            case 18:
                due("keep()", x.keep(), model.keep());
                break;
            case 19:
                due("restore()", x.restore(), model.restore());
                break;
            default:
                due("clear()", x.clear(), model.clear());
                break;
        }
    }

    /** A text of up to two entries, with a fault now and then, that is done. */
    private void typeText() {
        StringBuilder text = new StringBuilder();
        int entries = 1 + below(2);
        for (int i = 0; i < entries; i++) {
            if (i > 0) {
                text.append(',');
            }
            text.append(below(8));
            if (below(4) == 0) {
                text.append('-');
            } else {
                text.append('=').append(below(2) == 0 ? below(1000) : below(100));
            }
        }
        if (below(4) == 0) {
            text.setCharAt(below(text.length()), SIGNS.charAt(below(SIGNS.length())));
        }
        act(16);
        for (int i = 0; i < text.length(); i++) {
            char sign = text.charAt(i);
            due("type(" + sign + ")", x.type(sign), model.type(sign));
        }
        act(4);
    }

    private void ask(int kind) {
        int page = value(0, 7);
        int reader = value(0, 3);
        int what = value(0, 18);
        int cell = value(0, 23);
        switch (kind) {
            case 0:
                due("read(" + page + ")", x.read(page), model.read(page));
                break;
            case 1:
                due("readDesk(" + page + ")", x.readDesk(page), model.readDesk(page));
                break;
            case 2:
                due("readBy(" + reader + ", " + page + ")", x.readBy(reader, page), model.readBy(reader, page));
                break;
            case 3: case 4:
                due("cell(" + cell + ", " + page + ")", x.cell(cell, page), model.cell(cell, page));
                break;
            case 5:
                int table = value(0, 1);
                due("table(" + table + ", " + what + ")", x.table(table, what), model.table(table, what));
                break;
            case 6:
                int owedWhat = value(0, 1);
                due("owed(" + page + ", " + owedWhat + ")", x.owed(page, owedWhat), model.owed(page, owedWhat));
                break;
            case 7:
                due("reader(" + reader + ")", x.reader(reader), model.reader(reader));
                break;
            case 8:
                due("unevennessBits()", x.unevennessBits(), model.unevennessBits());
                break;
            default:
                due("count(" + what + ")", x.count(what), model.count(what));
                break;
        }
    }

    private void askEverything() {
        for (int what = 0; what < 17; what++) {
            due("count(" + what + ")", x.count(what), model.count(what));
        }
        for (int cell = 0; cell < 24; cell++) {
            for (int what = 0; what < 8; what++) {
                due("cell(" + cell + ", " + what + ")", x.cell(cell, what), model.cell(cell, what));
            }
        }
        for (int what = 0; what < 18; what += what == 3 ? 7 : 1) {
            due("table(0, " + what + ")", x.table(0, what), model.table(0, what));
            due("table(1, " + what + ")", x.table(1, what), model.table(1, what));
        }
        for (int page = 0; page < 8; page++) {
            due("read(" + page + ")", x.read(page), model.read(page));
            due("readDesk(" + page + ")", x.readDesk(page), model.readDesk(page));
            for (int reader = 0; reader < 4; reader++) {
                due("readBy(" + reader + ", " + page + ")", x.readBy(reader, page), model.readBy(reader, page));
            }
        }
        due("unevenness", Double.doubleToLongBits(x.unevenness()), Double.doubleToLongBits(model.unevenness()));
        due("unevennessBits", x.unevennessBits(), model.unevennessBits());
    }
}
