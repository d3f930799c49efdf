import java.util.ArrayList;
import java.util.Arrays;
import java.util.List;
import java.util.TreeMap;
import java.util.Map;

/**
 * What a call leaves as it was: refused calls leave all, telling calls too, and an act that is undone.
 * What is not told at once (the history, the snapshot, the text) is seen by what later calls make of it.
 */
public final class StateTests implements Answers {
    private static final Sentences t = new Sentences("StateTests");

    private interface Call {
        long on(CountedTables x);
    }

    private interface Maker {
        CountedTables make();
    }

    private record Refused(String name, Call call, long due) { }

    /** A state, and the calls that are refused in it beside those that are refused in every state. */
    private static final class Situation {
        final String name;
        final Maker maker;
        final List<Refused> refused = new ArrayList<>();

        Situation(String name, Maker maker) {
            this.name = name;
            this.maker = maker;
        }

        Situation refuses(String call, Call body, long due) {
            refused.add(new Refused(call, body, due));
            return this;
        }
    }

    private static final List<Situation> situations = new ArrayList<>();
    private static final Map<String, Call> later = new TreeMap<>();
    private static final List<Refused> everywhere = new ArrayList<>();
    private static final Map<String, Call> acts = new TreeMap<>();
    private static final Map<String, Call> noActs = new TreeMap<>();

    private StateTests() {
    }

    public static void main(String[] args) {
        deskSituations();
        swapSituations();
        readerSituations();
        textSituations();
        historySituations();
        crashSituations();
        fillLater();
        fillEverywhere();
        fillActs();
        fillNoActs();
        for (Situation s : situations) {
            refusedCallsChangeNothing(s);
            tellingChangesNothing(s);
            actsAreUndone(s);
            noActIsRecorded(s);
            actsAreRecordedByFour(s);
        }
        t.end();
    }

    private static Situation situation(String name, Maker maker) {
        Situation made = new Situation(name, maker);
        situations.add(made);
        return made;
    }

    private static Situation withoutSwap(Situation s) {
        return s.refuses("step()", CountedTables::step, NONE)
            .refuses("finish()", CountedTables::finish, NONE)
            .refuses("giveUp()", CountedTables::giveUp, NONE)
            .refuses("owed(0, 0)", x -> x.owed(0, 0), NONE);
    }

    private static Situation withEmptyDesk(Situation s) {
        return withoutSwap(s)
            .refuses("clear()", CountedTables::clear, NONE)
            .refuses("begin()", CountedTables::begin, NONE);
    }

    private static Situation withSwap(Situation s) {
        return s.refuses("write(3, 4)", x -> x.write(3, 4), NOT_POSSIBLE)
            .refuses("write(1, 10)", x -> x.write(1, 10), NOT_POSSIBLE)
            .refuses("drop(0)", x -> x.drop(0), NOT_POSSIBLE)
            .refuses("drop(7)", x -> x.drop(7), NOT_POSSIBLE)
            .refuses("clear()", CountedTables::clear, NOT_POSSIBLE)
            .refuses("begin()", CountedTables::begin, NOT_POSSIBLE);
    }

    private static Situation withoutReaders(Situation s) {
        for (int reader = 0; reader < 4; reader++) {
            int ended = reader;
            s.refuses("close(" + ended + ")", x -> x.close(ended), UNKNOWN)
                .refuses("reader(" + ended + ")", x -> x.reader(ended), UNKNOWN)
                .refuses("readBy(" + ended + ", 0)", x -> x.readBy(ended, 0), UNKNOWN);
        }
        return s;
    }

    private static Situation withoutSnapshot(Situation s) {
        return s.refuses("restore()", CountedTables::restore, NONE);
    }

    private static void deskSituations() {
        Situation fresh = situation("a new object", CountedTables::new);
        withoutSnapshot(withoutReaders(withEmptyDesk(fresh)))
            .refuses("undo()", CountedTables::undo, NONE)
            .refuses("writeAll()", CountedTables::writeAll, -100);
        Situation told = situation("a desk that tells of pages", () -> {
            CountedTables x = new CountedTables();
            Stores.swap(x, 0, 5);
            x.write(0, 6);
            x.write(1, 10);
            x.drop(7);
            return x;
        });
        withoutSnapshot(withoutReaders(withoutSwap(told)))
            .refuses("write(0, 6)", x -> x.write(0, 6), NONE)
            .refuses("write(1, 10)", x -> x.write(1, 10), NONE)
            .refuses("drop(7)", x -> x.drop(7), NONE);
        Situation undone = situation("a desk that is empty by undo", () -> {
            CountedTables x = new CountedTables();
            x.crash(true);
            x.write(0, 6);
            x.undo();
            return x;
        });
        withoutSnapshot(withoutReaders(withEmptyDesk(undone)));
    }

    private static void swapSituations() {
        for (int done = 0; done < 4; done++) {
            int steps = done;
            Situation swap = situation("a swap with " + steps + " steps done", () -> Stores.inSwap(steps));
            withoutSnapshot(withoutReaders(withSwap(swap)))
                .refuses("owed(9, 1)", x -> x.owed(9, 1), NONE);
        }
        withoutSnapshot(withoutReaders(withEmptyDesk(situation("a swap that is done", () -> Stores.inSwap(4)))));
        Situation givenUp = situation("a swap that is given up", () -> {
            CountedTables x = Stores.inSwap(3);
            x.giveUp();
            return x;
        });
        withoutSnapshot(withoutReaders(withoutSwap(givenUp)))
            .refuses("write(1, 10)", x -> x.write(1, 10), NONE)
            .refuses("drop(0)", x -> x.drop(0), NONE);
        Situation waits = situation("a swap that waits for a cell", () -> {
            CountedTables x = Stores.withFreeCells(1);
            x.write(1, 10);
            x.write(2, 20);
            x.begin();
            x.finish();
            return x;
        });
        withoutSnapshot(withSwap(waits))
            .refuses("step()", CountedTables::step, FULL)
            .refuses("finish()", CountedTables::finish, FULL);
        Situation never = situation("a swap that has no cell for its first step", () -> {
            CountedTables x = Stores.withFreeCells(0);
            x.write(1, 10);
            x.begin();
            Stores.type(x, "1=1");
            return x;
        });
        withoutSnapshot(withSwap(never))
            .refuses("step()", CountedTables::step, FULL)
            .refuses("finish()", CountedTables::finish, FULL)
            .refuses("writeAll()", CountedTables::writeAll, NOT_POSSIBLE);
    }

    private static void readerSituations() {
        Situation four = situation("four readers", () -> {
            CountedTables x = new CountedTables();
            for (int i = 0; i < 4; i++) {
                x.open();
                Stores.swap(x, i, i);
            }
            return x;
        });
        withoutSnapshot(withEmptyDesk(four))
            .refuses("open()", CountedTables::open, FULL)
            .refuses("readBy(0, 0)", x -> x.readBy(0, 0), NONE);
        Situation gap = situation("readers 0 and 2", () -> {
            CountedTables x = new CountedTables();
            Stores.swap(x, 0, 1);
            for (int i = 0; i < 4; i++) {
                x.open();
            }
            x.close(1);
            x.close(3);
            return x;
        });
        withoutSnapshot(withEmptyDesk(gap))
            .refuses("close(1)", x -> x.close(1), UNKNOWN)
            .refuses("close(3)", x -> x.close(3), UNKNOWN)
            .refuses("reader(3)", x -> x.reader(3), UNKNOWN)
            .refuses("readBy(1, 0)", x -> x.readBy(1, 0), UNKNOWN);
    }

    private static void textSituations() {
        Situation full = situation("a full text", () -> {
            CountedTables x = new CountedTables();
            Stores.type(x, "0-,1-,2-,3-,4-,5-,6-,7-,0-,1-,2-,3-,4-,5-,6-,7-,0-,1-,2-,3=9");
            return x;
        });
        withoutSnapshot(withEmptyDesk(full))
            .refuses("type('0')", x -> x.type('0'), FULL)
            .refuses("type(',')", x -> x.type(','), FULL);
        Situation faulty = situation("a text with a fault behind two entries", () -> {
            CountedTables x = new CountedTables();
            x.write(0, 3);
            Stores.type(x, "0=1,1=2,1=05");
            return x;
        });
        withoutSnapshot(withoutSwap(faulty))
            .refuses("writeAll()", CountedTables::writeAll, -111);
        Situation swap = situation("a text and a swap", () -> {
            CountedTables x = Stores.inSwap(1);
            Stores.type(x, "1=10,0-,4=58");
            return x;
        });
        withoutSnapshot(withSwap(swap))
            .refuses("writeAll()", CountedTables::writeAll, NOT_POSSIBLE);
        Situation early = situation("a text that ends too early, and a swap", () -> {
            CountedTables x = Stores.inSwap(1);
            Stores.type(x, "1=10,0");
            return x;
        });
        withoutSnapshot(withSwap(early))
            .refuses("writeAll()", CountedTables::writeAll, -106);
    }

    private static void historySituations() {
        for (int states = 0; states <= 4; states++) {
            int left = states;
            Situation undone = situation("a history of " + left + " states behind undo", () -> {
                CountedTables x = Stores.inSwap(4);
                x.keep();
                Stores.swapAllPages(x, 600);
                x.write(0, 3);
                x.write(1, 10);
                x.write(0, 4);
                for (int i = 4; i > left; i--) {
                    x.undo();
                }
                Stores.type(x, "2=2");
                return x;
            });
            withoutReaders(undone);
            if (left == 0) {
                undone.refuses("undo()", CountedTables::undo, NONE);
            }
        }
        Situation restored = situation("a snapshot that was restored into", () -> {
            CountedTables x = Stores.inSwap(1);
            x.open();
            x.keep();
            x.finish();
            x.crash(true);
            x.restore();
            return x;
        });
        withSwap(restored);
    }

    private static void crashSituations() {
        for (int done = 0; done < 4; done++) {
            int steps = done;
            Situation crashed = situation("a torn crash with " + steps + " steps done", () -> {
                CountedTables x = Stores.inSwap(steps);
                x.open();
                x.crash(true);
                return x;
            });
            withoutSnapshot(withoutReaders(withEmptyDesk(crashed)));
        }
    }

    /** Calls behind which everything is told, so that what is hidden comes out. */
    private static void fillLater() {
        later.put("", x -> 0);
        later.put("undo()", CountedTables::undo);
        later.put("undo() twice", x -> x.undo() + x.undo());
        later.put("undo() three times", x -> x.undo() + x.undo() + x.undo());
        later.put("undo() four times", x -> x.undo() + x.undo() + x.undo() + x.undo());
        later.put("undo() five times", x -> x.undo() + x.undo() + x.undo() + x.undo() + x.undo());
        later.put("crash(true) four times, undo() four times", x -> {
            for (int i = 0; i < 4; i++) {
                x.crash(true);
            }
            return x.undo() + x.undo() + x.undo() + x.undo();
        });
        later.put("restore()", CountedTables::restore);
        later.put("keep(), crash(false), restore()", x -> x.keep() + x.crash(false) + x.restore());
        later.put("giveUp(), writeAll()", x -> x.giveUp() + 1000L * x.writeAll());
        later.put("type(','), writeAll()", x -> x.type(',') + 1000L * x.writeAll());
        later.put("clearText()", CountedTables::clearText);
        later.put("step()", CountedTables::step);
        later.put("finish()", CountedTables::finish);
        later.put("begin(), finish()", x -> x.begin() + 1000L * x.finish());
        later.put("crash(true)", x -> x.crash(true));
        later.put("open()", CountedTables::open);
    }

    private static void always(String name, Call call, long due) {
        everywhere.add(new Refused(name, call, due));
    }

    private static void fillEverywhere() {
        int[] noPages = {-1, 8, LOWEST, GREATEST};
        for (int page : noPages) {
            always("write(" + page + ", 5)", x -> x.write(page, 5), UNKNOWN);
            always("write(" + page + ", 1000)", x -> x.write(page, 1000), UNKNOWN);
            always("drop(" + page + ")", x -> x.drop(page), UNKNOWN);
            always("read(" + page + ")", x -> x.read(page), UNKNOWN);
            always("readDesk(" + page + ")", x -> x.readDesk(page), UNKNOWN);
            always("readBy(0, " + page + ")", x -> x.readBy(0, page), UNKNOWN);
        }
        int[] noContents = {-1, -5, 1000, LOWEST, GREATEST};
        for (int content : noContents) {
            always("write(1, " + content + ")", x -> x.write(1, content), BAD_VALUE);
        }
        int[] noReaders = {-1, 4, LOWEST, GREATEST};
        for (int reader : noReaders) {
            always("close(" + reader + ")", x -> x.close(reader), UNKNOWN);
            always("reader(" + reader + ")", x -> x.reader(reader), UNKNOWN);
            always("readBy(" + reader + ", 0)", x -> x.readBy(reader, 0), UNKNOWN);
        }
        always("cell(24, 0)", x -> x.cell(24, 0), UNKNOWN);
        always("cell(-1, 9)", x -> x.cell(-1, 9), UNKNOWN);
        always("cell(0, 8)", x -> x.cell(0, 8), BAD_VALUE);
        always("table(2, 0)", x -> x.table(2, 0), UNKNOWN);
        always("table(-1, 4)", x -> x.table(-1, 4), UNKNOWN);
        always("table(0, 4)", x -> x.table(0, 4), BAD_VALUE);
        always("table(1, 18)", x -> x.table(1, 18), BAD_VALUE);
        always("owed(-1, 0)", x -> x.owed(-1, 0), BAD_VALUE);
        always("owed(0, 2)", x -> x.owed(0, 2), BAD_VALUE);
        always("owed(10, 0)", x -> x.owed(10, 0), NONE);
        always("count(17)", x -> x.count(17), BAD_VALUE);
        always("count(-1)", x -> x.count(-1), BAD_VALUE);
    }

    private static void fillActs() {
        acts.put("write(1, 11)", x -> x.write(1, 11));
        acts.put("write(5, 0)", x -> x.write(5, 0));
        acts.put("drop(1)", x -> x.drop(1));
        acts.put("drop(6)", x -> x.drop(6));
        acts.put("writeAll()", CountedTables::writeAll);
        acts.put("clear()", CountedTables::clear);
        acts.put("begin()", CountedTables::begin);
        acts.put("step()", CountedTables::step);
        acts.put("finish()", CountedTables::finish);
        acts.put("giveUp()", CountedTables::giveUp);
        acts.put("crash(true)", x -> x.crash(true));
        acts.put("crash(false)", x -> x.crash(false));
        acts.put("open()", CountedTables::open);
        for (int reader = 0; reader < 4; reader++) {
            int ended = reader;
            acts.put("close(" + ended + ")", x -> x.close(ended));
        }
        acts.put("restore()", CountedTables::restore);
    }

    private static void fillNoActs() {
        noActs.put("type('0')", x -> x.type('0'));
        noActs.put("clearText()", CountedTables::clearText);
        noActs.put("keep()", CountedTables::keep);
    }

    /** What a call answers, and everything that is told behind it, with the history's length at the end. */
    private static long[] seenBehind(Situation s, Call first, Call then) {
        CountedTables x = s.maker.make();
        first.on(x);
        long answer = then.on(x);
        int states = x.count(14);
        int[] told = Stores.everything(x);
        long[] seen = new long[told.length + 2];
        for (int i = 0; i < told.length; i++) {
            seen[i] = told[i];
        }
        seen[told.length] = answer;
        seen[told.length + 1] = states;
        return seen;
    }

    private static void refusedCallsChangeNothing(Situation s) {
        List<Refused> all = new ArrayList<>(everywhere);
        all.addAll(s.refused);
        for (Refused r : all) {
            t.test("A call that returns an error or NONE changes nothing: " + r.name + " of " + s.name, () -> {
                t.due(r.name, r.call.on(s.maker.make()), r.due);
                for (Map.Entry<String, Call> probe : later.entrySet()) {
                    long[] want = seenBehind(s, x -> 0, probe.getValue());
                    long[] got = seenBehind(s, r.call, probe.getValue());
                    t.due("first change seen behind " + probe.getKey(), Arrays.mismatch(got, want), -1);
                }
            });
        }
    }

    private static void tellingChangesNothing(Situation s) {
        t.test("What is told changes nothing: " + s.name, () -> {
            for (Map.Entry<String, Call> probe : later.entrySet()) {
                CountedTables x = s.maker.make();
                Stores.everything(x);
                x.unevenness();
                x.unevennessBits();
                long answer = probe.getValue().on(x);
                CountedTables y = s.maker.make();
                t.due(probe.getKey(), answer, probe.getValue().on(y));
                dueAlike("behind " + probe.getKey(), x, y);
            }
        });
    }

    /** Fewer calls than everything has, for objects that have told everything before. */
    private static void dueAlike(String when, CountedTables x, CountedTables y) {
        for (int what = 0; what <= 16; what++) {
            t.due("count(" + what + ") " + when, x.count(what), y.count(what));
        }
        for (int cell = 0; cell < 24; cell++) {
            t.due("cell(" + cell + ", 0) " + when, x.cell(cell, 0), y.cell(cell, 0));
            t.due("cell(" + cell + ", 3) " + when, x.cell(cell, 3), y.cell(cell, 3));
        }
        for (int page = 0; page < 8; page++) {
            t.due("readDesk(" + page + ") " + when, x.readDesk(page), y.readDesk(page));
            t.due("table(0, " + (10 + page) + ") " + when, x.table(0, 10 + page), y.table(0, 10 + page));
            t.due("table(1, " + (10 + page) + ") " + when, x.table(1, 10 + page), y.table(1, 10 + page));
        }
    }

    private static boolean isDone(long answer) {
        return answer >= 0;
    }

    private static void actsAreUndone(Situation s) {
        for (Map.Entry<String, Call> act : acts.entrySet()) {
            t.test("an act records the state that was before it: " + act.getKey() + " of " + s.name, () -> {
                CountedTables x = s.maker.make();
                int before = x.count(14);
                boolean done = isDone(act.getValue().on(x));
                t.due("states", x.count(14), done ? Math.min(4, before + 1) : before);
                if (done) {
                    t.due("undo", x.undo(), Math.min(3, before));
                    int[] want = Stores.everything(s.maker.make());
                    t.due("first change seen behind undo", Arrays.mismatch(Stores.everything(x), want), -1);
                }
            });
        }
    }

    private static void noActIsRecorded(Situation s) {
        for (Map.Entry<String, Call> call : noActs.entrySet()) {
            t.test("no act: " + call.getKey() + " of " + s.name, () -> {
                CountedTables x = s.maker.make();
                int before = x.count(14);
                call.getValue().on(x);
                t.due("states", x.count(14), before);
                CountedTables y = s.maker.make();
                for (int i = before; i > 0; i--) {
                    t.due("undo", x.undo(), y.undo());
                }
                t.due("empty", x.undo(), NONE);
                // The text is no part of the state, so that these calls changed it, and it may not come back.
                y.clearText();
                x.clearText();
                t.due("first change", Arrays.mismatch(Stores.everything(x), Stores.everything(y)), -1);
            });
        }
    }

    private static void actsAreRecordedByFour(Situation s) {
        t.test("when one more is recorded, the oldest one is dropped: " + s.name, () -> {
            CountedTables x = s.maker.make();
            for (int i = 0; i < 4; i++) {
                x.crash(false);
                t.due("states at most 4", x.count(14) <= 4 ? 1 : 0, 1);
            }
            t.due("states", x.count(14), 4);
            x.undo();
            x.undo();
            x.undo();
            t.due("the last of four", x.undo(), 0);
            int[] want = Stores.everything(s.maker.make());
            t.due("first change seen behind four", Arrays.mismatch(Stores.everything(x), want), -1);
            CountedTables y = s.maker.make();
            for (int i = 0; i < 5; i++) {
                y.crash(false);
            }
            for (int i = 0; i < 5; i++) {
                t.due("undo", y.undo(), i < 4 ? 3 - i : NONE);
            }
            CountedTables z = s.maker.make();
            z.crash(false);
            t.due("the first of five is gone", Arrays.mismatch(Stores.everything(y), Stores.everything(z)), -1);
        });
    }
}
