import java.util.Arrays;
import java.util.List;

/**
 * Every run of three calls of a small set, from each of some starts, compared with PlainModel: the mixed runs of
 * ModelTests come to a given order of calls only by chance.
 */
public final class ShortRunsTests {
    private interface Call {
        int of(Tables x);
    }

    private interface Start {
        void of(Tables x);
    }

    private record Named(String name, Call call) { }

    private static final int LENGTH = 3;
    private static final String TEXT = "0=3,1-,0=40";

    private static final List<Named> CALLS = List.of(
        new Named("write(0, 1)", x -> x.write(0, 1)),
        new Named("write(0, 7)", x -> x.write(0, 7)),
        new Named("write(1, 2)", x -> x.write(1, 2)),
        new Named("drop(0)", x -> x.drop(0)),
        new Named("writeAll()", Tables::writeAll),
        new Named("clear()", Tables::clear),
        new Named("begin()", Tables::begin),
        new Named("step()", Tables::step),
        new Named("finish()", Tables::finish),
        new Named("giveUp()", Tables::giveUp),
        new Named("crash(true)", x -> x.crash(true)),
        new Named("crash(false)", x -> x.crash(false)),
        new Named("open()", Tables::open),
        new Named("close(0)", x -> x.close(0)),
        new Named("undo()", Tables::undo),
        new Named("keep()", Tables::keep),
        new Named("restore()", Tables::restore));

    private static final List<Start> STARTS = List.of(
        x -> { },
        x -> {
            x.open();
            Stores.goIntoSwap(x, 0);
        },
        x -> Stores.goIntoSwap(x, 1),
        x -> {
            Stores.goIntoSwap(x, 2);
            x.open();
        },
        x -> Stores.goIntoSwap(x, 3),
        ShortRunsTests::oneFreeCellForTwo);

    private static int runs = 0;
    private static int wrong = 0;

    private ShortRunsTests() {
    }

    public static void main(String[] args) {
        for (int start = 0; start < STARTS.size(); start++) {
            int[] run = new int[LENGTH];
            do {
                compare(start, run);
            } while (next(run) && wrong < 5);
        }
        System.out.println("ShortRunsTests: " + runs + " runs, " + wrong + " wrong");
        if (wrong != 0) {
            System.exit(1);
        }
    }

    private static void oneFreeCellForTwo(Tables x) {
        Stores.leaveFreeCells(x, 1);
        x.write(3, 33);
        x.write(5, 55);
        x.begin();
    }

    /** Counts the run up like a number; false behind the last one. */
    private static boolean next(int[] run) {
        for (int i = LENGTH - 1; i >= 0; i--) {
            run[i]++;
            if (run[i] < CALLS.size()) {
                return true;
            }
            run[i] = 0;
        }
        return false;
    }

    private static void compare(int start, int[] run) {
        Tables program = new CountedTables();
        Tables model = new PlainModel();
        int[] got = answers(program, start, run);
        int[] want = answers(model, start, run);
        runs++;
        if (!Arrays.equals(got, want)) {
            wrong++;
            int first = Arrays.mismatch(got, want);
            System.out.println("start " + start + ", " + names(run) + ": the answer " + first + " was " + got[first]
                + ", due is " + want[first]);
        }
    }

    private static int[] answers(Tables x, int start, int[] run) {
        Stores.type(x, TEXT);
        STARTS.get(start).of(x);
        int[] answers = new int[LENGTH];
        for (int i = 0; i < LENGTH; i++) {
            answers[i] = CALLS.get(run[i]).call().of(x);
        }
        int[] state = Stores.everything(x);
        int[] all = Arrays.copyOf(answers, LENGTH + state.length + 2);
        System.arraycopy(state, 0, all, LENGTH, state.length);
        all[all.length - 2] = x.count(14);
        all[all.length - 1] = x.unevennessBits();
        return all;
    }

    private static String names(int[] run) {
        StringBuilder names = new StringBuilder();
        for (int call : run) {
            names.append(names.length() == 0 ? "" : ", ").append(CALLS.get(call).name());
        }
        return names.toString();
    }
}
