/** At least one test for each promise of ../shared/DOC.md: ordinary inputs, the edges it names, wrong inputs. */
public final class PromiseTests implements Answers {
    private static int checks = 0;
    private static int wrong = 0;

    private PromiseTests() {
    }

    public static void main(String[] args) {
        constants();
        newObject();
        write();
        drop();
        writeAll();
        faultsOfTexts();
        clear();
        begin();
        step();
        stepTakesTheLeastWornCell();
        stepIsFull();
        finish();
        finishIsFull();
        giveUp();
        crash();
        crashTearsCells();
        crashTearsEachCell();
        crashTearsTables();
        crashWithoutFreeCell();
        open();
        close();
        type();
        clearText();
        undo();
        undoRestoresEverything();
        undoRestoresTables();
        keep();
        restore();
        read();
        readDesk();
        readBy();
        cell();
        table();
        owed();
        reader();
        unevenness();
        unevennessBits();
        count();
        nothingChangesOnErrors();
        System.out.println("PromiseTests: " + checks + " checks, " + wrong + " wrong");
        if (wrong != 0) {
            System.exit(1);
        }
    }

    private static void due(String what, long got, long want) {
        checks++;
        if (got != want) {
            wrong++;
            System.out.println(what + ": answered " + got + ", due is " + want);
        }
    }

    private static void dueDouble(String what, double got, double want) {
        checks++;
        if (got != want) {
            wrong++;
            System.out.println(what + ": answered " + got + ", due is " + want);
        }
    }

    /** The reader 0 keeps the cells 0 to 7, the reader 1 the cells 8 to 15, and the old generation has 16 to 23. */
    private static CountedTables withoutFreeCells() {
        CountedTables x = new CountedTables();
        Stores.swapAllPages(x, 0);
        due("reader of the first generation", x.open(), 0);
        Stores.swapAllPages(x, 100);
        due("reader of the second generation", x.open(), 1);
        Stores.swapAllPages(x, 200);
        due("no free cells", x.count(6), 0);
        return x;
    }

    private static void constants() {
        due("UNKNOWN", SwappedTables.UNKNOWN, UNKNOWN);
        due("BAD_VALUE", SwappedTables.BAD_VALUE, BAD_VALUE);
        due("FULL", SwappedTables.FULL, FULL);
        due("NOT_POSSIBLE", SwappedTables.NOT_POSSIBLE, NOT_POSSIBLE);
        due("NONE", SwappedTables.NONE, NONE);
    }

    /** Promise 1. */
    private static void newObject() {
        CountedTables x = new CountedTables();
        for (int page = 0; page < 8; page++) {
            due("1 read", x.read(page), NONE);
            due("1 readDesk", x.readDesk(page), NONE);
            due("1 table 0 cell", x.table(0, 10 + page), NONE);
            due("1 table 1 cell", x.table(1, 10 + page), NONE);
        }
        for (int cell = 0; cell < 24; cell++) {
            int[] first = {0, 11, 0, 0, 1, NONE, 0, NONE};
            for (int what = 0; what < 8; what++) {
                due("1 cell " + cell + " " + what, x.cell(cell, what), first[what]);
            }
        }
        due("1 number of table 0", x.table(0, 0), 1);
        due("1 number of table 1", x.table(1, 0), 0);
        due("1 table 0 torn", x.table(0, 1), 0);
        due("1 table 1 torn", x.table(1, 1), 0);
        due("1 table 0 old", x.table(0, 2), 1);
        due("1 table 1 old", x.table(1, 2), 0);
        int[] counts = {1, 0, 0, 0, 0, 0, 24, 0, 0, 0, 0, 0, 0, 0, 0, 0, 0};
        for (int what = 0; what < counts.length; what++) {
            due("1 count " + what, x.count(what), counts[what]);
        }
        due("1 undo", x.undo(), NONE);
        due("1 restore", x.restore(), NONE);
        due("1 clearText", x.clearText(), 0);
    }

    /** Promise 2. */
    private static void write() {
        CountedTables x = new CountedTables();
        due("2 first", x.write(3, 0), 1);
        due("2 other page", x.write(7, 999), 2);
        due("2 page 0", x.write(0, 12), 3);
        due("2 in place", x.write(3, 4), 3);
        due("2 same again", x.write(3, 4), NONE);
        due("2 records no NONE", x.count(14), 4);
        due("2 reads", x.readDesk(3), 4);
        due("2 not in the old generation", x.read(3), NONE);
        due("2 page -1", x.write(-1, 5), UNKNOWN);
        due("2 page 8", x.write(8, 5), UNKNOWN);
        due("2 page before content", x.write(8, -1), UNKNOWN);
        due("2 page far below", x.write(Integer.MIN_VALUE, 5), UNKNOWN);
        due("2 page far above", x.write(Integer.MAX_VALUE, 5), UNKNOWN);
        due("2 content -1", x.write(0, -1), BAD_VALUE);
        due("2 content 1000", x.write(0, 1000), BAD_VALUE);
        due("2 content of a dropped page", x.write(0, NONE), BAD_VALUE);
        x.begin();
        due("2 in a swap", x.write(3, 5), NOT_POSSIBLE);
        due("2 in a swap, the same", x.write(3, 4), NOT_POSSIBLE);
        due("2 in a swap, bad content", x.write(3, 1000), BAD_VALUE);
        due("2 in a swap, bad page", x.write(8, 4), UNKNOWN);
        x.finish();
        due("2 what the old generation has is no NONE", x.write(3, 4), 1);
    }

    /** Promise 3. */
    private static void drop() {
        CountedTables x = new CountedTables();
        due("3 a page without a cell", x.drop(2), 1);
        due("3 again", x.drop(2), NONE);
        due("3 records no NONE", x.count(14), 1);
        due("3 page -1", x.drop(-1), UNKNOWN);
        due("3 page 8", x.drop(8), UNKNOWN);
        x.write(5, 50);
        due("3 written on the desk", x.drop(5), 2);
        due("3 reads none", x.readDesk(5), NONE);
        x.write(6, 60);
        x.begin();
        due("3 in a swap", x.drop(1), NOT_POSSIBLE);
        due("3 in a swap, told so already", x.drop(2), NOT_POSSIBLE);
        due("3 in a swap, bad page", x.drop(8), UNKNOWN);
        x.finish();
        due("3 of the old generation", x.drop(6), 1);
        due("3 the old generation stays", x.read(6), 60);
        due("3 the desk does not", x.readDesk(6), NONE);
        due("3 owes no cell", x.begin(), 2);
        x.finish();
        due("3 gone with the swap", x.read(6), NONE);
        due("3 its cell is free", x.count(6), 24);
    }

    /** Promise 4. */
    private static void writeAll() {
        CountedTables x = new CountedTables();
        due("4 three entries", Stores.writeAll(x, "0=5,7=999,3-"), 3);
        due("4 page 0", x.readDesk(0), 5);
        due("4 page 7", x.readDesk(7), 999);
        due("4 page 3", x.readDesk(3), NONE);
        due("4 told", x.count(3), 3);
        due("4 the text stays", x.count(15), 12);
        due("4 one act", x.count(14), 1);
        due("4 an act without a change too", x.writeAll(), 3);
        due("4 recorded too", x.count(14), 2);
        due("4 one after the other", Stores.writeAll(x, "1=1,1-,1=20,0-,7-,7=300"), 6);
        due("4 the last entry counts", x.readDesk(1), 20);
        due("4 the last entry drops", x.readDesk(0), NONE);
        due("4 the last entry writes", x.readDesk(7), 300);
        due("4 pages of several entries", x.count(3), 4);
        due("4 most entries", Stores.writeAll(x, "0-,1-,2-,3-,4-,5-,6-,7-,0-,1-,2-,3-,4-,5-,6-,7-,0-,1-,2-,3-"), 20);
        due("4 all told", x.count(3), 8);
        due("4 zero", Stores.writeAll(x, "4=0"), 1);
        due("4 reads zero", x.readDesk(4), 0);
        due("4 two digits", Stores.writeAll(x, "4=90"), 1);
        due("4 reads two digits", x.readDesk(4), 90);
        due("4 three digits", Stores.writeAll(x, "4=100"), 1);
        due("4 reads three digits", x.readDesk(4), 100);
        x.begin();
        due("4 in a swap", x.writeAll(), NOT_POSSIBLE);
        due("4 in a swap, with a fault", Stores.writeAll(x, "4=1,"), -104);
    }

    /** Promise 4: the faults. */
    private static void faultsOfTexts() {
        String[] texts = {
            "", "8", "-", "0", "0=", "0+", "0--", "0-1", "0=00", "0=05", "0=1000", "0=9-", "0=99=", "0=999,",
            "0=1,8-", "0=1,,", "0=1;1-", " 0-", "0 -", "0- ", "0-,", "0=a", "0=:", "0=/", "0=1:", "0=1/", "0=12:",
            "00", "0=0,1=1,2=22,3=333,4=4444", "0,", "a", "0=\u0660", "0=1\u0660", "7=-1", "0-\u002d", "/=1", "0=12,3"
        };
        int[] faults = {
            0, 0, 0, 1, 2, 1, 2, 2, 3, 3, 5, 3, 4, 6,
            4, 4, 3, 0, 1, 2, 3, 2, 2, 2, 3, 3, 4,
            1, 24, 1, 0, 2, 3, 2, 2, 0, 6
        };
        for (int i = 0; i < texts.length; i++) {
            CountedTables x = new CountedTables();
            due("4 fault of '" + texts[i] + "'", Stores.writeAll(x, texts[i]), -100 - faults[i]);
            due("4 nothing is done of '" + texts[i] + "'", x.count(3), 0);
            due("4 nothing is recorded of '" + texts[i] + "'", x.count(14), 0);
        }
        CountedTables x = new CountedTables();
        String full = "0-,1-,2-,3-,4-,5-,6-,7-,0-,1-,2-,3-,4-,5-,6-,7-,0-,1-,2-,3-,";
        due("4 a full text that ends too early", Stores.writeAll(x, full), -160);
    }

    /** Promise 5. */
    private static void clear() {
        CountedTables x = new CountedTables();
        due("5 of nothing", x.clear(), NONE);
        due("5 records no NONE", x.count(14), 0);
        x.write(0, 1);
        x.drop(1);
        due("5 of two", x.clear(), 2);
        due("5 nothing is told", x.count(3), 0);
        due("5 nothing is read", x.readDesk(0), NONE);
        due("5 recorded", x.count(14), 3);
        due("5 again", x.clear(), NONE);
        x.write(0, 1);
        x.begin();
        due("5 in a swap", x.clear(), NOT_POSSIBLE);
        x.finish();
        due("5 behind a swap", x.clear(), NONE);
        x.drop(0);
        x.clear();
        due("5 the old generation stays", x.readDesk(0), 1);
    }

    /** Promise 6. */
    private static void begin() {
        CountedTables x = new CountedTables();
        due("6 of nothing", x.begin(), NONE);
        due("6 records no NONE", x.count(14), 0);
        x.drop(4);
        due("6 of a dropped page", x.begin(), 2);
        due("6 goes on", x.begin(), NOT_POSSIBLE);
        x.giveUp();
        x.write(4, 1);
        x.write(2, 1);
        x.drop(0);
        due("6 of two contents", x.begin(), 4);
        due("6 owes", x.count(4), 4);
        due("6 nothing is done", x.count(5), 0);
        due("6 the desk stays", x.count(3), 3);
        x.finish();
        due("6 behind it the desk is empty", x.begin(), NONE);
    }

    /** Promise 7. */
    private static void step() {
        CountedTables x = new CountedTables();
        due("7 none", x.step(), NONE);
        x.write(6, 66);
        x.write(2, 22);
        x.drop(0);
        due("7 none yet", x.step(), NONE);
        x.begin();
        due("7 first", x.step(), 3);
        due("7 ascending pages", x.cell(0, 0), 22);
        due("7 its seal", x.cell(0, 1), (22 * 37 + 11) % 101);
        due("7 its wear", x.cell(0, 3), 1);
        due("7 not free", x.cell(0, 4), 0);
        due("7 second", x.step(), 2);
        due("7 second cell", x.cell(1, 0), 66);
        due("7 table not yet", x.table(1, 0), 0);
        due("7 table", x.step(), 1);
        due("7 its number", x.table(1, 0), 2);
        due("7 its pages", x.table(1, 3), 4 + 64);
        due("7 its cell", x.table(1, 12), 0);
        due("7 its other cell", x.table(1, 16), 1);
        due("7 mark not yet", x.count(1), 0);
        due("7 nothing read yet", x.read(2), NONE);
        due("7 the desk is there yet", x.count(3), 3);
        due("7 no swap done yet", x.count(13), 0);
        due("7 mark", x.step(), 0);
        due("7 the mark is set", x.count(1), 1);
        due("7 read now", x.read(2), 22);
        due("7 the desk is empty", x.count(3), 0);
        due("7 a swap done", x.count(13), 1);
        due("7 none goes on", x.step(), NONE);
        due("7 each is an act", x.count(14), 4);
        due("7 undone", x.undo(), 3);
        due("7 the mark is back", x.count(1), 0);
        due("7 the mark is owed", x.count(4), 1);
        x.finish();
        x.write(1, 11);
        x.drop(6);
        x.begin();
        x.finish();
        due("7 the first table again", x.count(1), 0);
        due("7 cells of other pages stay", x.table(0, 12), 0);
        due("7 the new cell", x.table(0, 11), 2);
        due("7 the dropped one", x.table(0, 16), NONE);
        due("7 number 3", x.table(0, 0), 3);
        due("7 the other table is as it was", x.table(1, 3), 4 + 64);
    }

    /** Promise 7: which cell is written. */
    private static void stepTakesTheLeastWornCell() {
        CountedTables x = new CountedTables();
        x.write(0, 1);
        for (int i = 0; i < 24; i++) {
            x.begin();
            x.step();
            due("7 lowest of the least worn", x.cell(i, 7), 0);
            x.giveUp();
        }
        x.begin();
        x.step();
        due("7 from the first again", x.cell(0, 3), 2);
        x.giveUp();
        x.begin();
        x.finish();
        due("7 the cell in the old generation", x.table(1, 10), 1);
        x.write(3, 3);
        x.begin();
        x.step();
        due("7 cells that are worn less", x.cell(2, 7), 3);
    }

    /** Promise 7: a step that needs a cell. */
    private static void stepIsFull() {
        CountedTables x = withoutFreeCells();
        x.drop(0);
        x.write(1, 1);
        x.begin();
        int states = x.count(14);
        due("7 full", x.step(), FULL);
        due("7 full again", x.step(), FULL);
        due("7 the swap waits", x.count(4), 3);
        due("7 nothing done", x.count(5), 0);
        due("7 records no error", x.count(14), states);
        due("7 a reader ends", x.close(0), 1);
        due("7 goes on", x.step(), 2);
        due("7 the reader's cell", x.cell(0, 7), 1);
        CountedTables y = withoutFreeCells();
        y.drop(0);
        y.begin();
        due("7 a table needs no cell", y.step(), 1);
        due("7 a mark needs no cell", y.step(), 0);
        due("7 cells of the readers stay", y.readBy(0, 7), 7);
        due("7 a cell is free then", y.cell(16, 4), 1);
    }

    /** Promise 8. */
    private static void finish() {
        CountedTables x = new CountedTables();
        due("8 none", x.finish(), NONE);
        x.write(0, 5);
        x.write(1, 6);
        x.begin();
        x.step();
        int states = x.count(14);
        due("8 the rest", x.finish(), 0);
        due("8 one act", x.count(14), states);
        due("8 read", x.read(1), 6);
        due("8 done", x.count(13), 1);
        due("8 none goes on", x.finish(), NONE);
        x.undo();
        due("8 undone at once", x.count(4), 3);
        due("8 the step before it stays done", x.count(5), 1);
    }

    /** Promise 8: as far as possible. */
    private static void finishIsFull() {
        CountedTables x = withoutFreeCells();
        x.write(4, 1);
        x.write(5, 2);
        x.write(6, 3);
        x.begin();
        due("8 full", x.finish(), FULL);
        CountedTables y = new CountedTables();
        Stores.swapAllPages(y, 0);
        y.open();
        Stores.swapAllPages(y, 100);
        y.open();
        for (int page = 0; page < 6; page++) {
            y.write(page, 200 + page);
        }
        y.begin();
        y.finish();
        due("8 two free", y.count(6), 2);
        y.open();
        for (int page = 0; page < 5; page++) {
            y.write(page, 300 + page);
        }
        due("8 owed", y.begin(), 7);
        due("8 as far as possible", y.finish(), 5);
        due("8 done so far", y.count(5), 2);
        due("8 cells owed", y.count(16), 3);
        due("8 full then", y.finish(), FULL);
        due("8 a reader ends", y.close(0), 2);
        due("8 the rest", y.finish(), 0);
        due("8 read", y.read(4), 304);
    }

    /** Promise 9. */
    private static void giveUp() {
        CountedTables x = new CountedTables();
        due("9 none", x.giveUp(), NONE);
        x.write(0, 5);
        x.write(1, 6);
        due("9 none yet", x.giveUp(), NONE);
        due("9 records no NONE", x.count(14), 2);
        x.begin();
        due("9 no step done", x.giveUp(), 0);
        due("9 an act", x.count(14), 4);
        x.begin();
        x.step();
        x.step();
        x.step();
        due("9 steps done", x.giveUp(), 3);
        due("9 nothing owed", x.count(4), 0);
        due("9 nothing done", x.count(5), 0);
        due("9 the desk stays", x.count(3), 2);
        due("9 the cells are free", x.count(6), 24);
        due("9 the cell is nobody's", x.cell(0, 7), NONE);
        due("9 its content stays", x.cell(0, 0), 5);
        due("9 the table stays written", x.table(1, 0), 2);
        due("9 the table keeps its cells", x.table(1, 11), 1);
        due("9 the old one stays", x.count(0), 1);
        due("9 again", x.giveUp(), NONE);
        due("9 the desk can be changed", x.write(2, 1), 3);
        due("9 no swap done", x.count(13), 0);
        x.begin();
        x.finish();
        due("9 the next swap takes other cells", x.table(1, 10), 2);
    }

    /** Promise 10. */
    private static void crash() {
        CountedTables x = new CountedTables();
        due("10 of a new one", x.crash(false), 1);
        due("10 with nothing to tear", x.crash(true), 1);
        due("10 counted", x.count(9), 2);
        due("10 an act", x.count(14), 2);
        x.write(0, 5);
        x.write(1, 6);
        x.open();
        due("10 the desk without a swap", x.crash(true), 1);
        due("10 no cell torn", x.count(7), 0);
        due("10 nothing written", x.count(11), 0);
        due("10 the desk is gone", x.count(3), 0);
        due("10 the readers are gone", x.count(8), 0);
        x.write(0, 5);
        x.begin();
        x.step();
        x.step();
        due("10 the mark is not torn", x.crash(true), 1);
        due("10 the mark is not set", x.count(1), 0);
        due("10 the swap is gone", x.count(4), 0);
        due("10 the table is right", x.table(1, 1), 0);
        due("10 no swap done", x.count(13), 0);
        due("10 its cells are free", x.count(6), 24);
        x.write(0, 5);
        x.begin();
        due("10 untorn", x.crash(false), 1);
        due("10 nothing is torn", x.count(7), 0);
        due("10 nothing more written", x.count(11), 1);
        x.write(0, 7);
        x.begin();
        x.finish();
        due("10 behind a swap", x.crash(true), 2);
        due("10 the old generation stays", x.read(0), 7);
        due("10 swaps stay counted", x.count(13), 1);
    }

    /** Promise 10: torn cells. */
    private static void crashTearsCells() {
        CountedTables x = new CountedTables();
        x.write(2, 6);
        x.write(5, 8);
        x.begin();
        x.step();
        due("10 a cell is torn", x.crash(true), 1);
        due("10 its content", x.cell(1, 0), 8);
        due("10 its seal", x.cell(1, 1), (8 * 37 + 11) % 101 + 1);
        due("10 it is torn", x.cell(1, 2), 1);
        due("10 its wear", x.cell(1, 3), 1);
        due("10 it is free", x.cell(1, 4), 1);
        due("10 the other is sound", x.cell(0, 2), 0);
        due("10 one is torn", x.count(7), 1);
        // The content 57 has the seal 100, so that its torn seal goes round to 0.
        x.write(0, 57);
        x.begin();
        x.crash(true);
        due("10 a seal of 100", x.cell(2, 1), 0);
        due("10 torn all the same", x.cell(2, 2), 1);
        x.write(0, 1);
        for (int i = 0; i < 24; i++) {
            x.begin();
            x.step();
            x.giveUp();
        }
        due("10 sound when written again", x.count(7), 0);
    }

    /** Promise 10: the first and the last cell. */
    private static void crashTearsEachCell() {
        CountedTables x = new CountedTables();
        for (int i = 0; i < 24; i++) {
            x.write(3, i);
            x.begin();
            x.crash(true);
            due("10 torn " + i, x.cell(i, 2), 1);
            due("10 all torn so far", x.count(7), i + 1);
        }
        due("10 crashes", x.count(9), 24);
        x.write(3, 9);
        x.begin();
        x.step();
        due("10 a torn cell is sound again", x.cell(0, 2), 0);
        due("10 the others are not", x.count(7), 23);
    }

    /** Promise 10: torn tables. */
    private static void crashTearsTables() {
        CountedTables x = new CountedTables();
        x.write(0, 5);
        x.begin();
        x.finish();
        x.write(1, 6);
        x.drop(0);
        x.begin();
        x.step();
        due("10 a table is torn", x.crash(true), 2);
        due("10 it is torn", x.table(0, 1), 1);
        due("10 its number", x.table(0, 0), 3);
        due("10 its pages", x.table(0, 3), 2);
        due("10 its cell", x.table(0, 11), 1);
        due("10 the old one is right", x.table(1, 1), 0);
        due("10 no cell is torn", x.count(7), 0);
        due("10 read", x.read(0), 5);
        x.write(2, 6);
        x.begin();
        x.finish();
        due("10 right when written again", x.table(0, 1), 0);
        due("10 with the old cells", x.table(0, 3), 5);
    }

    /** Promise 10: readers keep their cells until the crash. */
    private static void crashWithoutFreeCell() {
        CountedTables x = withoutFreeCells();
        x.write(0, 1);
        x.begin();
        due("10 no free cell", x.crash(true), 4);
        due("10 nothing torn", x.count(7), 0);
        due("10 nothing written", x.count(11), 24);
        due("10 the readers' cells are free", x.count(6), 16);
        CountedTables y = new CountedTables();
        Stores.swapAllPages(y, 0);
        y.open();
        y.open();
        Stores.swapAllPages(y, 100);
        for (int i = 0; i < 8; i++) {
            y.write(0, i);
            y.begin();
            y.step();
            y.giveUp();
        }
        y.write(0, 50);
        y.begin();
        y.crash(true);
        due("10 not a reader's cell, though worn less or lower", y.cell(0, 2), 0);
        due("10 the least worn that is free", y.cell(16, 2), 1);
    }

    /** Promise 11. */
    private static void open() {
        CountedTables x = new CountedTables();
        due("11 first", x.open(), 0);
        due("11 second", x.open(), 1);
        due("11 third", x.open(), 2);
        due("11 fourth", x.open(), 3);
        due("11 recorded", x.count(14), 4);
        due("11 full", x.open(), FULL);
        x.undo();
        due("11 no error recorded", x.count(8), 3);
        x.open();
        x.close(2);
        x.close(1);
        due("11 the lowest that is free", x.open(), 1);
        due("11 the next one", x.open(), 2);
        due("11 full again", x.open(), FULL);
        CountedTables y = new CountedTables();
        y.write(0, 1);
        y.begin();
        y.step();
        y.step();
        due("11 in a swap", y.open(), 0);
        due("11 keeps the old one", y.reader(0), 1);
        y.step();
        due("11 keeps it behind the swap", y.readBy(0, 0), NONE);
        due("11 the next one keeps the new one", y.open(), 1);
        due("11 its number", y.reader(1), 2);
    }

    /** Promise 12. */
    private static void close() {
        CountedTables x = new CountedTables();
        due("12 none", x.close(0), UNKNOWN);
        x.open();
        x.open();
        x.open();
        due("12 reader -1", x.close(-1), UNKNOWN);
        due("12 reader 3", x.close(3), UNKNOWN);
        due("12 reader 4", x.close(4), UNKNOWN);
        due("12 far above", x.close(Integer.MAX_VALUE), UNKNOWN);
        due("12 far below", x.close(Integer.MIN_VALUE), UNKNOWN);
        due("12 no error is recorded", x.count(14), 3);
        due("12 two left", x.close(1), 2);
        due("12 again", x.close(1), UNKNOWN);
        due("12 one left", x.close(0), 1);
        due("12 none left", x.close(2), 0);
        x.undo();
        due("12 undone", x.reader(2), 1);
        CountedTables y = withoutFreeCells();
        y.close(0);
        due("12 its cells are free", y.count(6), 8);
        due("12 cells of the other", y.count(12), 8);
    }

    /** Promise 13. */
    private static void type() {
        CountedTables x = new CountedTables();
        for (int i = 1; i <= 60; i++) {
            due("13 typed", x.type((char) (i * 1000)), i);
        }
        due("13 full", x.type('0'), FULL);
        due("13 length", x.count(15), 60);
        due("13 no act", x.count(14), 0);
        x.clearText();
        due("13 from the start", x.type('3'), 1);
        x.type('-');
        due("13 behind the text", x.writeAll(), 1);
        due("13 the page typed", x.count(3), 1);
        x.undo();
        due("13 not undone", x.count(15), 2);
    }

    /** Promise 14. */
    private static void clearText() {
        CountedTables x = new CountedTables();
        due("14 empty", x.clearText(), 0);
        Stores.type(x, "0=12");
        due("14 length", x.clearText(), 4);
        due("14 empty again", x.clearText(), 0);
        due("14 no length", x.count(15), 0);
        due("14 no text", x.writeAll(), -100);
        due("14 no act", x.count(14), 0);
    }

    /** Promise 15. */
    private static void undo() {
        CountedTables x = new CountedTables();
        due("15 empty", x.undo(), NONE);
        for (int i = 0; i < 6; i++) {
            x.write(0, i);
        }
        due("15 four states", x.count(14), 4);
        due("15 first", x.undo(), 3);
        due("15 the latest", x.readDesk(0), 4);
        x.write(0, 77);
        due("15 recorded behind it", x.count(14), 4);
        due("15 again", x.undo(), 3);
        due("15 the state before it", x.readDesk(0), 4);
        due("15 second", x.undo(), 2);
        due("15 third", x.undo(), 1);
        due("15 fourth", x.undo(), 0);
        due("15 the oldest one", x.readDesk(0), 1);
        due("15 none left", x.undo(), NONE);
        due("15 nothing changed", x.readDesk(0), 1);
    }

    /** Promise 15: each part of the state comes back, but not the text and the snapshot. */
    private static void undoRestoresEverything() {
        CountedTables x = new CountedTables();
        x.write(0, 6);
        x.write(1, 7);
        x.begin();
        x.open();
        x.step();
        x.keep();
        Stores.type(x, "0-");
        x.crash(true);
        due("15 crashed", x.count(9), 1);
        due("15 undone", x.undo(), 3);
        due("15 crashes", x.count(9), 0);
        due("15 owed", x.count(4), 3);
        due("15 done", x.count(5), 1);
        due("15 written", x.cell(0, 7), 0);
        due("15 torn", x.count(7), 0);
        due("15 wear", x.count(11), 1);
        due("15 content", x.cell(1, 0), 0);
        due("15 desk", x.readDesk(1), 7);
        due("15 readers", x.reader(0), 1);
        due("15 the text stays", x.count(15), 2);
        x.finish();
        due("15 swapped", x.count(0), 2);
        x.undo();
        due("15 the number is back", x.count(0), 1);
        due("15 the mark is back", x.count(1), 0);
        due("15 the table is back", x.table(1, 3), 0);
        due("15 the swaps are back", x.count(13), 0);
        x.crash(false);
        due("15 the snapshot stays", x.restore(), 1);
        due("15 as it was kept", x.count(4), 3);
    }

    /** Promise 15: tables and readers. */
    private static void undoRestoresTables() {
        CountedTables x = new CountedTables();
        Stores.swapAllPages(x, 500);
        x.open();
        x.write(0, 1);
        x.begin();
        x.step();
        x.crash(true);
        due("15 torn table", x.table(0, 1), 1);
        x.undo();
        due("15 right again", x.table(0, 1), 0);
        due("15 its number is back", x.table(0, 0), 1);
        due("15 its pages are back", x.table(0, 3), 0);
        due("15 its cells are back", x.table(0, 10), NONE);
        x.crash(true);
        x.write(1, 1);
        x.begin();
        x.finish();
        due("15 right by a swap", x.table(0, 1), 0);
        x.undo();
        due("15 torn again", x.table(0, 1), 1);
        due("15 the swap is owed", x.count(4), 3);
        x.giveUp();
        x.open();
        x.close(0);
        x.finish();
        x.write(0, 900);
        x.begin();
        x.finish();
        x.open();
        due("15 reader of the new one", x.readBy(0, 0), 900);
        x.undo();
        due("15 no reader", x.reader(0), UNKNOWN);
        x.open();
        x.keep();
        x.write(0, 901);
        x.begin();
        x.finish();
        x.close(0);
        x.open();
        due("15 another generation", x.readBy(0, 0), 901);
        x.undo();
        x.undo();
        due("15 the reader's own number", x.reader(0), 3);
        due("15 the reader's own page", x.readBy(0, 0), 900);
        x.close(0);
        x.open();
        due("17 another generation", x.reader(0), 4);
        x.restore();
        due("17 the reader's own number", x.reader(0), 3);
        due("17 the reader's own page", x.readBy(0, 0), 900);
    }

    /** Promise 16. */
    private static void keep() {
        CountedTables x = new CountedTables();
        due("16 the number", x.keep(), 1);
        due("16 no act", x.count(14), 0);
        x.write(0, 1);
        x.begin();
        x.finish();
        due("16 another number", x.keep(), 2);
        x.write(0, 2);
        x.begin();
        x.finish();
        due("16 in place of the other", x.restore(), 2);
        due("16 its page", x.read(0), 1);
        x.write(3, 3);
        x.keep();
        x.undo();
        x.restore();
        due("16 undo leaves it", x.readDesk(3), 3);
    }

    /** Promise 17. */
    private static void restore() {
        CountedTables x = new CountedTables();
        due("17 none", x.restore(), NONE);
        due("17 records no NONE", x.count(14), 0);
        x.write(0, 1);
        x.write(1, 2);
        x.begin();
        x.step();
        x.open();
        x.keep();
        x.finish();
        x.close(0);
        x.crash(false);
        Stores.type(x, "12");
        due("17 the number", x.restore(), 1);
        due("17 recorded", x.count(14), 4);
        due("17 the swap goes on", x.count(4), 3);
        due("17 its cell", x.cell(0, 7), 0);
        due("17 the reader", x.reader(0), 1);
        due("17 the desk", x.count(3), 2);
        due("17 crashes", x.count(9), 0);
        due("17 swaps", x.count(13), 0);
        due("17 wear", x.count(11), 1);
        due("17 the text stays", x.count(15), 2);
        x.giveUp();
        due("17 the snapshot stays", x.restore(), 1);
        due("17 as it was", x.count(4), 3);
        x.undo();
        due("17 undone", x.count(4), 0);
        due("17 the desk behind it", x.count(3), 2);
        x.finish();
        due("17 an act even if nothing changes", x.restore(), 1);
    }

    /** Promise 18. */
    private static void read() {
        CountedTables x = new CountedTables();
        due("18 none", x.read(0), NONE);
        due("18 page -1", x.read(-1), UNKNOWN);
        due("18 page 8", x.read(8), UNKNOWN);
        Stores.swapAllPages(x, 500);
        for (int page = 0; page < 8; page++) {
            due("18 page " + page, x.read(page), 500 + page);
        }
        x.write(3, 1);
        due("18 not the desk", x.read(3), 503);
        x.begin();
        x.step();
        due("18 not the swap", x.read(3), 503);
    }

    /** Promise 19. */
    private static void readDesk() {
        CountedTables x = new CountedTables();
        due("19 none", x.readDesk(0), NONE);
        due("19 page -1", x.readDesk(-1), UNKNOWN);
        due("19 page 8", x.readDesk(8), UNKNOWN);
        Stores.swapAllPages(x, 500);
        due("19 the old generation", x.readDesk(7), 507);
        x.write(7, 0);
        due("19 the desk", x.readDesk(7), 0);
        x.drop(7);
        due("19 dropped", x.readDesk(7), NONE);
        x.begin();
        due("19 in a swap", x.readDesk(7), NONE);
        due("19 another page in a swap", x.readDesk(6), 506);
    }

    /** Promise 20. */
    private static void readBy() {
        CountedTables x = new CountedTables();
        due("20 no reader", x.readBy(0, 0), UNKNOWN);
        x.open();
        due("20 none", x.readBy(0, 0), NONE);
        due("20 page -1", x.readBy(0, -1), UNKNOWN);
        due("20 page 8", x.readBy(0, 8), UNKNOWN);
        due("20 reader -1", x.readBy(-1, 0), UNKNOWN);
        due("20 reader 1", x.readBy(1, 0), UNKNOWN);
        due("20 reader 4", x.readBy(4, 0), UNKNOWN);
        Stores.swapAllPages(x, 500);
        due("20 its own generation", x.readBy(0, 0), NONE);
        x.open();
        Stores.swapAllPages(x, 600);
        Stores.swapAllPages(x, 700);
        due("20 first page", x.readBy(1, 0), 500);
        due("20 last page", x.readBy(1, 7), 507);
        x.close(1);
        due("20 ended", x.readBy(1, 0), UNKNOWN);
    }

    /** Promise 21. */
    private static void cell() {
        CountedTables x = new CountedTables();
        due("21 cell -1", x.cell(-1, 0), UNKNOWN);
        due("21 cell 24", x.cell(24, 0), UNKNOWN);
        due("21 cell before what", x.cell(24, 8), UNKNOWN);
        due("21 what -1", x.cell(0, -1), BAD_VALUE);
        due("21 what 8", x.cell(23, 8), BAD_VALUE);
        x.write(5, 999);
        x.begin();
        x.step();
        x.step();
        due("21 content", x.cell(0, 0), 999);
        due("21 seal", x.cell(0, 1), (999 * 37 + 11) % 101);
        due("21 torn", x.cell(0, 2), 0);
        due("21 wear", x.cell(0, 3), 1);
        due("21 free", x.cell(0, 4), 0);
        due("21 page of the old generation", x.cell(0, 5), NONE);
        due("21 readers", x.cell(0, 6), 0);
        due("21 page of the swap", x.cell(0, 7), 5);
        due("21 another cell", x.cell(1, 7), NONE);
        x.step();
        due("21 page behind the swap", x.cell(0, 5), 5);
        due("21 no swap", x.cell(0, 7), NONE);
        due("21 not free", x.cell(0, 4), 0);
        x.open();
        x.open();
        due("21 two readers", x.cell(0, 6), 2);
        x.drop(5);
        x.begin();
        x.finish();
        due("21 readers only", x.cell(0, 5), NONE);
        due("21 kept by readers", x.cell(0, 4), 0);
        x.close(0);
        due("21 one reader", x.cell(0, 6), 1);
        x.close(1);
        due("21 free then", x.cell(0, 4), 1);
        due("21 its content stays", x.cell(0, 0), 999);
    }

    /** Promise 22. */
    private static void table() {
        CountedTables x = new CountedTables();
        due("22 table -1", x.table(-1, 0), UNKNOWN);
        due("22 table 2", x.table(2, 0), UNKNOWN);
        due("22 table before what", x.table(2, 4), UNKNOWN);
        int[] bad = {-1, 4, 5, 9, 18, Integer.MAX_VALUE, Integer.MIN_VALUE};
        for (int what : bad) {
            due("22 what " + what, x.table(0, what), BAD_VALUE);
        }
        Stores.swapAllPages(x, 0);
        due("22 all pages", x.table(1, 3), 255);
        for (int page = 0; page < 8; page++) {
            due("22 cell of page " + page, x.table(1, 10 + page), page);
        }
        due("22 old", x.table(1, 2), 1);
        due("22 not old", x.table(0, 2), 0);
        x.drop(0);
        x.write(7, 1);
        x.begin();
        x.step();
        x.step();
        due("22 the written one", x.table(0, 0), 3);
        due("22 is not the old one yet", x.table(0, 2), 0);
        due("22 its pages", x.table(0, 3), 254);
        due("22 dropped", x.table(0, 10), NONE);
        due("22 from the old one", x.table(0, 11), 1);
        due("22 new", x.table(0, 17), 8);
    }

    /** Promise 23. */
    private static void owed() {
        CountedTables x = new CountedTables();
        due("23 none goes on", x.owed(0, 0), NONE);
        due("23 bad what, none goes on", x.owed(0, 2), BAD_VALUE);
        x.write(6, 1);
        x.drop(1);
        x.write(3, 1);
        due("23 none goes on yet", x.owed(0, 0), NONE);
        x.begin();
        int[] kinds = {0, 0, 1, 2};
        int[] pages = {3, 6, NONE, NONE};
        for (int done = 0; done < 4; done++) {
            for (int place = 0; place < 4 - done; place++) {
                due("23 kind at " + place + " behind " + done, x.owed(place, 0), kinds[done + place]);
                due("23 page at " + place + " behind " + done, x.owed(place, 1), pages[done + place]);
            }
            due("23 not so many", x.owed(4 - done, 0), NONE);
            due("23 not so many pages", x.owed(4 - done, 1), NONE);
            due("23 by far not so many", x.owed(Integer.MAX_VALUE, 0), NONE);
            due("23 place -1", x.owed(-1, 0), BAD_VALUE);
            due("23 place far below", x.owed(Integer.MIN_VALUE, 1), BAD_VALUE);
            due("23 what -1", x.owed(0, -1), BAD_VALUE);
            due("23 what 2", x.owed(0, 2), BAD_VALUE);
            due("23 what 2, not so many", x.owed(9, 2), BAD_VALUE);
            x.step();
        }
        due("23 none goes on any more", x.owed(0, 0), NONE);
    }

    /** Promise 24. */
    private static void reader() {
        CountedTables x = new CountedTables();
        due("24 none", x.reader(0), UNKNOWN);
        due("24 reader -1", x.reader(-1), UNKNOWN);
        due("24 reader 4", x.reader(4), UNKNOWN);
        x.open();
        Stores.swapAllPages(x, 0);
        x.open();
        due("24 the first generation", x.reader(0), 1);
        due("24 the second generation", x.reader(1), 2);
        due("24 reader 2", x.reader(2), UNKNOWN);
        x.close(0);
        due("24 ended", x.reader(0), UNKNOWN);
        x.open();
        due("24 begun again", x.reader(0), 2);
    }

    /** Promise 25. */
    private static void unevenness() {
        CountedTables x = new CountedTables();
        dueDouble("25 new", x.unevenness(), 0.0);
        x.write(0, 1);
        int all = 0;
        for (int i = 0; i < 50; i++) {
            x.begin();
            x.step();
            x.giveUp();
            all++;
            int greatest = (all + 23) / 24;
            dueDouble("25 behind " + all, x.unevenness(), (double) greatest - (double) all / 24.0);
        }
    }

    /** Promise 26. */
    private static void unevennessBits() {
        CountedTables x = new CountedTables();
        due("26 new", x.unevennessBits(), 0);
        Stores.swapAllPages(x, 0);
        x.open();
        Stores.swapAllPages(x, 0);
        x.open();
        x.write(0, 1);
        for (int i = 0; i < 110; i++) {
            x.begin();
            x.step();
            x.giveUp();
            // Every other time, so that the calls stay below the document's 512.
            if (i % 2 == 0) {
                due("26 behind " + i, x.unevennessBits(), Float.floatToIntBits((float) x.unevenness()));
            }
        }
        due("26 above 8", x.unevenness() > 8.0 ? 1 : 0, 1);
    }

    /** Promise 27. */
    private static void count() {
        CountedTables x = new CountedTables();
        due("27 what -1", x.count(-1), BAD_VALUE);
        due("27 what 17", x.count(17), BAD_VALUE);
        due("27 far above", x.count(Integer.MAX_VALUE), BAD_VALUE);
        due("27 far below", x.count(Integer.MIN_VALUE), BAD_VALUE);
        Stores.swapAllPages(x, 0);
        x.open();
        x.open();
        x.drop(0);
        x.write(1, 90);
        x.begin();
        x.finish();
        x.open();
        x.crash(true);
        x.undo();
        x.write(2, 91);
        x.write(3, 92);
        x.drop(4);
        x.begin();
        x.step();
        Stores.type(x, "012");
        int[] counts = {3, 0, 7, 3, 3, 1, 14, 0, 3, 0, 1, 10, 2, 2, 4, 3, 1};
        for (int what = 0; what < counts.length; what++) {
            due("27 in a swap " + what, x.count(what), counts[what]);
        }
        x.crash(true);
        int[] behind = {3, 0, 7, 0, 0, 0, 17, 1, 0, 1, 1, 11, 0, 2, 4, 3, 0};
        for (int what = 0; what < behind.length; what++) {
            due("27 behind a crash " + what, x.count(what), behind[what]);
        }
    }

    /** Errors and NONE change nothing and are not recorded. */
    private static void nothingChangesOnErrors() {
        CountedTables x = new CountedTables();
        x.write(0, 4);
        x.undo();
        x.write(9, 0);
        x.write(0, 1000);
        x.drop(9);
        x.writeAll();
        x.clear();
        x.begin();
        x.step();
        x.finish();
        x.giveUp();
        x.close(0);
        x.restore();
        due("no state", x.count(14), 0);
        due("nothing told", x.count(3), 0);
        due("nothing to undo", x.undo(), NONE);
    }
}
