/** The ranges, the errors in their order, NONE and the empty and full cases of the promises 1 to 27, one by one. */
public final class PromiseEdgeTests implements Answers {
    private static final Sentences t = new Sentences("PromiseEdgeTests");

    private PromiseEdgeTests() {
    }

    public static void main(String[] args) {
        newObject();
        write();
        drop();
        writeAll();
        clear();
        begin();
        step();
        finish();
        giveUp();
        crash();
        open();
        close();
        type();
        clearText();
        undo();
        keep();
        restore();
        read();
        readDesk();
        readBy();
        cell();
        table();
        owed();
        reader();
        unevenness();
        unevennessBits();
        countRanges();
        countEmpty();
        countFull();
        t.end();
    }

    private static void newObject() {
        t.test("1: Creates a store without pages", () -> {
            CountedTables x = new CountedTables();
            for (int page = 0; page < 8; page++) {
                t.due("read", x.read(page), NONE);
                t.due("readDesk", x.readDesk(page), NONE);
            }
            t.due("pages", x.count(2), 0);
            t.due("desk", x.count(3), 0);
            t.due("free cells", x.count(6), 24);
            t.due("readers", x.count(8), 0);
            t.due("text", x.count(15), 0);
        });
    }

    private static void write() {
        t.test("2: page: 0 to 7", () -> {
            CountedTables x = new CountedTables();
            t.due("0", x.write(0, 5), 1);
            t.due("7", x.write(7, 5), 2);
            t.due("-1", x.write(-1, 5), UNKNOWN);
            t.due("8", x.write(8, 5), UNKNOWN);
            t.due("lowest", x.write(LOWEST, 5), UNKNOWN);
            t.due("greatest", x.write(GREATEST, 5), UNKNOWN);
        });
        t.test("2: content: 0 to 999", () -> {
            CountedTables x = new CountedTables();
            t.due("0", x.write(0, 0), 1);
            t.due("999", x.write(0, 999), 1);
            t.due("-1", x.write(0, -1), BAD_VALUE);
            t.due("1000", x.write(0, 1000), BAD_VALUE);
            t.due("lowest", x.write(0, LOWEST), BAD_VALUE);
            t.due("greatest", x.write(0, GREATEST), BAD_VALUE);
            for (int content = -12; content < 0; content++) {
                t.due("below 0", x.write(3, content), BAD_VALUE);
            }
            t.due("told", x.count(3), 1);
            t.due("read", x.readDesk(0), 999);
        });
        t.test("2: UNKNOWN; BAD_VALUE; NOT_POSSIBLE if a swap goes on; NONE", () -> {
            CountedTables x = Stores.inSwap(0);
            t.due("page and content and swap", x.write(8, 1000), UNKNOWN);
            t.due("page and swap", x.write(-1, 1), UNKNOWN);
            t.due("content and swap", x.write(1, 1000), BAD_VALUE);
            t.due("content below and swap", x.write(1, -1), BAD_VALUE);
            t.due("swap and the same content", x.write(1, 10), NOT_POSSIBLE);
            t.due("swap", x.write(1, 11), NOT_POSSIBLE);
            x.giveUp();
            t.due("page and content", x.write(8, 1000), UNKNOWN);
            t.due("page and content below", x.write(-1, -1), UNKNOWN);
            t.due("the same content", x.write(1, 10), NONE);
            t.due("none of them", x.write(1, 11), 3);
        });
        t.test("2: NONE if the desk has this content for it already", () -> {
            CountedTables x = new CountedTables();
            Stores.swap(x, 2, 7);
            t.due("the old generation has it", x.write(2, 7), 1);
            t.due("the desk has it", x.write(2, 7), NONE);
            t.due("another page", x.write(3, 7), 2);
            t.due("another content", x.write(2, 8), 2);
            t.due("the one before", x.write(2, 7), 2);
            x.drop(2);
            t.due("dropped between", x.write(2, 7), 2);
            x.clear();
            t.due("cleared between", x.write(2, 7), 1);
            x.crash(false);
            t.due("a crash between", x.write(2, 7), 1);
            t.due("the content 0 of a page that has none", x.write(5, 0), 2);
            t.due("and again", x.write(5, 0), NONE);
        });
    }

    private static void drop() {
        t.test("3: page: 0 to 7", () -> {
            CountedTables x = new CountedTables();
            t.due("0", x.drop(0), 1);
            t.due("7", x.drop(7), 2);
            t.due("-1", x.drop(-1), UNKNOWN);
            t.due("8", x.drop(8), UNKNOWN);
            t.due("lowest", x.drop(LOWEST), UNKNOWN);
            t.due("greatest", x.drop(GREATEST), UNKNOWN);
            t.due("told", x.count(3), 2);
        });
        t.test("3: UNKNOWN; NOT_POSSIBLE if a swap goes on; NONE", () -> {
            CountedTables x = Stores.inSwap(0);
            t.due("page and swap", x.drop(8), UNKNOWN);
            t.due("page below and swap", x.drop(-1), UNKNOWN);
            t.due("swap and told so", x.drop(0), NOT_POSSIBLE);
            t.due("swap", x.drop(1), NOT_POSSIBLE);
            x.giveUp();
            t.due("told so", x.drop(0), NONE);
            t.due("none of them", x.drop(1), 3);
        });
        t.test("3: NONE if the desk tells so already", () -> {
            CountedTables x = new CountedTables();
            t.due("not told of", x.drop(2), 1);
            t.due("told so", x.drop(2), NONE);
            t.due("another page", x.drop(3), 2);
            x.write(2, 0);
            t.due("written between", x.drop(2), 2);
            x.begin();
            x.finish();
            t.due("a swap between", x.drop(2), 1);
            x.crash(true);
            t.due("a crash between", x.drop(2), 1);
            x.clear();
            t.due("cleared between", x.drop(2), 1);
        });
    }

    private static void writeAll() {
        t.test("4: Returns how many entries the text has", () -> {
            CountedTables x = new CountedTables();
            for (int entries = 1; entries <= 20; entries++) {
                Stores.type(x, (entries == 1 ? "" : ",") + entries % 8 + "-");
                t.due("entries", x.writeAll(), entries);
                t.due("pages told", x.count(3), Math.min(entries, 8));
            }
        });
        t.test("4: one after the other", () -> {
            CountedTables x = new CountedTables();
            t.due("entries", Stores.writeAll(x, "3=1,3=2,3-,3=3,4=5,4-,5-,5=0"), 8);
            t.due("written last", x.readDesk(3), 3);
            t.due("dropped last", x.readDesk(4), NONE);
            t.due("0 last", x.readDesk(5), 0);
            t.due("told", x.count(3), 3);
            t.due("owes", x.begin(), 4);
        });
        t.test("4: the text, which stays", () -> {
            CountedTables x = new CountedTables();
            t.due("entries", Stores.writeAll(x, "3=1"), 1);
            t.due("length", x.count(15), 3);
            x.clear();
            t.due("again", x.writeAll(), 1);
            t.due("told again", x.readDesk(3), 1);
            t.due("typed behind it", x.type('2'), 4);
            t.due("another content", x.writeAll(), 1);
            t.due("told", x.readDesk(3), 12);
        });
        t.test("4: This is one act", () -> {
            CountedTables x = new CountedTables();
            x.write(0, 9);
            Stores.writeAll(x, "0=1,1=2,2=3,3=4,4=5,5=6");
            t.due("states", x.count(14), 2);
            t.due("undone at once", x.undo(), 1);
            t.due("told", x.count(3), 1);
            t.due("page 0", x.readDesk(0), 9);
        });
        t.test("4: an act that changes nothing is recorded, since there is no NONE", () -> {
            CountedTables x = new CountedTables();
            Stores.writeAll(x, "0=1,1-");
            t.due("again", x.writeAll(), 2);
            t.due("states", x.count(14), 2);
            t.due("undo", x.undo(), 1);
            t.due("told", x.count(3), 2);
        });
        t.test("4: -100 minus the fault of the text; NOT_POSSIBLE if a swap goes on", () -> {
            CountedTables x = Stores.inSwap(1);
            t.due("fault and swap", x.writeAll(), -100);
            t.due("a later fault and swap", Stores.writeAll(x, "1=11,8"), -105);
            t.due("swap", Stores.writeAll(x, "1=11"), NOT_POSSIBLE);
            t.due("told", x.readDesk(1), 10);
            x.giveUp();
            t.due("neither", x.writeAll(), 1);
            t.due("told then", x.readDesk(1), 11);
        });
        t.test("4: of a text with a fault nothing is done, nor of what is in front of it", () -> {
            CountedTables x = new CountedTables();
            t.due("in the last entry", Stores.writeAll(x, "0=1,1=2,2=3,3=1000"), -117);
            t.due("told", x.count(3), 0);
            t.due("states", x.count(14), 0);
        });
    }

    private static void clear() {
        t.test("5: Returns how many pages it told of", () -> {
            for (int pages = 1; pages <= 8; pages++) {
                CountedTables x = new CountedTables();
                for (int page = 0; page < pages; page++) {
                    if (page % 3 == 0) {
                        x.drop(page);
                    } else {
                        x.write(page, 0);
                    }
                }
                t.due("pages", x.clear(), pages);
                t.due("then", x.count(3), 0);
                t.due("again", x.clear(), NONE);
            }
        });
        t.test("5: NOT_POSSIBLE if a swap goes on; NONE if it tells of none", () -> {
            CountedTables x = Stores.inSwap(3);
            t.due("swap", x.clear(), NOT_POSSIBLE);
            x.step();
            t.due("the desk is empty behind it", x.clear(), NONE);
            x.drop(0);
            x.crash(false);
            t.due("the desk is empty behind a crash", x.clear(), NONE);
            x.drop(0);
            t.due("one", x.clear(), 1);
        });
    }

    private static void begin() {
        t.test("6: Returns how many steps it owes", () -> {
            CountedTables x = new CountedTables();
            x.drop(0);
            t.due("the least", x.begin(), 2);
            x.giveUp();
            for (int page = 0; page < 8; page++) {
                x.write(page, 0);
            }
            t.due("the most", x.begin(), 10);
        });
        t.test("6: NOT_POSSIBLE if one goes on; NONE if the desk tells of no page", () -> {
            CountedTables x = new CountedTables();
            t.due("a new one", x.begin(), NONE);
            x.write(0, 1);
            x.clear();
            t.due("cleared", x.begin(), NONE);
            x.drop(0);
            t.due("of a page that is dropped", x.begin(), 2);
            t.due("goes on", x.begin(), NOT_POSSIBLE);
            x.step();
            t.due("goes on still", x.begin(), NOT_POSSIBLE);
            x.step();
            t.due("is done", x.begin(), NONE);
            x.drop(0);
            x.begin();
            x.crash(false);
            t.due("crashed", x.begin(), NONE);
            x.drop(0);
            x.begin();
            x.giveUp();
            t.due("given up", x.begin(), 2);
        });
        t.test("6: a swap begins though no cell is free", () -> {
            CountedTables x = Stores.withFreeCells(0);
            x.write(0, 1);
            t.due("begin", x.begin(), 3);
            t.due("step", x.step(), FULL);
        });
    }

    private static void step() {
        t.test("7: Returns how many steps it owes then", () -> {
            CountedTables x = Stores.inSwap(0);
            for (int left = 3; left >= 0; left--) {
                t.due("step", x.step(), left);
                t.due("owed", x.count(4), left);
            }
        });
        t.test("7: NONE if none goes on", () -> {
            CountedTables x = new CountedTables();
            t.due("a new one", x.step(), NONE);
            x.write(0, 1);
            t.due("before begin", x.step(), NONE);
            x.begin();
            x.giveUp();
            t.due("given up", x.step(), NONE);
            x.begin();
            x.finish();
            t.due("done", x.step(), NONE);
            x.drop(0);
            x.begin();
            x.crash(false);
            t.due("crashed", x.step(), NONE);
            t.due("though no cell is free", Stores.withFreeCells(0).step(), NONE);
        });
        t.test("7: FULL if a cell is needed, and none is free", () -> {
            CountedTables x = Stores.withFreeCells(0);
            x.write(0, 1);
            x.begin();
            t.due("none is free", x.step(), FULL);
            CountedTables y = Stores.withFreeCells(1);
            y.write(0, 1);
            y.begin();
            t.due("one is free", y.step(), 2);
            CountedTables z = Stores.withFreeCells(0);
            z.drop(0);
            z.begin();
            t.due("none is needed", z.step(), 1);
            t.due("none is needed for the mark", z.step(), 0);
        });
    }

    private static void finish() {
        t.test("8: Does all steps that the swap owes, from each place", () -> {
            for (int done = 0; done < 4; done++) {
                CountedTables x = Stores.inSwap(done);
                t.due("finish", x.finish(), 0);
                t.due("number", x.count(0), 3);
                t.due("page 1", x.read(1), 10);
                t.due("page 4", x.read(4), 57);
                t.due("swaps", x.count(13), 2);
                t.due("undo", x.undo(), 3);
                t.due("one act", x.count(5), done);
            }
        });
        t.test("8: as far as possible", () -> {
            for (int free = 1; free <= 8; free++) {
                CountedTables x = Stores.withFreeCells(free);
                for (int page = 0; page < 8; page++) {
                    x.write(page, 300 + page);
                }
                x.begin();
                t.due("with " + free, x.finish(), free == 8 ? 0 : 10 - free);
                t.due("done", x.count(5), free == 8 ? 0 : free);
                t.due("free", x.count(6), 0);
                t.due("again", x.finish(), free == 8 ? NONE : FULL);
                t.due("the old generation", x.read(7), free == 8 ? 307 : 107);
                x.undo();
                t.due("one act", x.count(4), 10);
            }
        });
        t.test("8: NONE if none goes on", () -> {
            CountedTables x = Stores.inSwap(4);
            t.due("done", x.finish(), NONE);
            x.drop(1);
            t.due("before begin", x.finish(), NONE);
            x.begin();
            x.giveUp();
            t.due("given up", x.finish(), NONE);
            t.due("a new one", new CountedTables().finish(), NONE);
            t.due("though no cell is free", Stores.withFreeCells(0).finish(), NONE);
        });
        t.test("8: FULL if a cell is needed for the first one, and none is free", () -> {
            CountedTables x = Stores.withFreeCells(0);
            x.write(0, 1);
            x.begin();
            t.due("none is free", x.finish(), FULL);
            x.close(0);
            t.due("eight are free", x.finish(), 0);
            CountedTables y = Stores.withFreeCells(0);
            y.drop(7);
            y.begin();
            t.due("none is needed", y.finish(), 0);
        });
    }

    private static void giveUp() {
        t.test("9: Returns how many steps of it were done", () -> {
            for (int done = 0; done < 4; done++) {
                CountedTables x = Stores.inSwap(done);
                t.due("done", x.giveUp(), done);
                t.due("nothing is owed any more", x.count(4), 0);
                t.due("nothing is done", x.count(5), 0);
                t.due("no next step", x.owed(0, 0), NONE);
                t.due("the desk stays", x.count(3), 3);
                t.due("a page of it", x.readDesk(4), 57);
                t.due("a dropped one of it", x.readDesk(0), NONE);
                t.due("cells that were written for it are free", x.count(6), 22);
                t.due("whose", x.cell(2, 7), NONE);
                t.due("their content stays", x.cell(2, 0), done > 0 ? 10 : 0);
                t.due("a table that was written stays", x.table(0, 0), done > 2 ? 3 : 1);
                t.due("the mark", x.count(1), 1);
                t.due("swaps", x.count(13), 1);
                t.due("again", x.giveUp(), NONE);
                t.due("begun anew", x.begin(), 4);
                t.due("done anew", x.finish(), 0);
                t.due("page", x.read(4), 57);
            }
        });
        t.test("9: the most steps done", () -> {
            CountedTables x = new CountedTables();
            for (int page = 0; page < 8; page++) {
                x.write(page, page);
            }
            x.begin();
            for (int i = 0; i < 9; i++) {
                x.step();
            }
            t.due("all but the mark", x.giveUp(), 9);
        });
        t.test("9: NONE if none goes on", () -> {
            CountedTables x = new CountedTables();
            t.due("a new one", x.giveUp(), NONE);
            x.drop(0);
            t.due("before begin", x.giveUp(), NONE);
            x.begin();
            x.finish();
            t.due("done", x.giveUp(), NONE);
            x.drop(0);
            x.begin();
            x.crash(true);
            t.due("crashed", x.giveUp(), NONE);
        });
        t.test("9: a swap that waits can be given up", () -> {
            CountedTables x = Stores.withFreeCells(1);
            x.write(0, 1);
            x.write(1, 2);
            x.begin();
            x.finish();
            t.due("waits", x.step(), FULL);
            t.due("given up", x.giveUp(), 1);
            t.due("free", x.count(6), 1);
        });
    }

    private static void crash() {
        t.test("10: Returns the number of the old generation then", () -> {
            CountedTables x = new CountedTables();
            t.due("the first", x.crash(true), 1);
            Stores.swap(x, 0, 1);
            t.due("the second", x.crash(true), 2);
            x.write(0, 2);
            x.begin();
            x.step();
            x.step();
            t.due("the mark is not set", x.crash(true), 2);
            Stores.swap(x, 0, 3);
            t.due("the third", x.crash(false), 3);
        });
        t.test("10: This is an act, though nothing else changes", () -> {
            CountedTables x = new CountedTables();
            x.crash(true);
            x.crash(false);
            t.due("states", x.count(14), 2);
            t.due("crashes", x.count(9), 2);
            t.due("undo", x.undo(), 1);
            t.due("crashes then", x.count(9), 1);
        });
    }

    private static void open() {
        t.test("11: Returns its number; FULL if there are 4", () -> {
            CountedTables x = new CountedTables();
            t.due("first", x.open(), 0);
            t.due("second", x.open(), 1);
            t.due("third", x.open(), 2);
            t.due("fourth", x.open(), 3);
            t.due("fifth", x.open(), FULL);
            t.due("states", x.count(14), 4);
            x.close(3);
            t.due("the last one ended", x.open(), 3);
            t.due("full again", x.open(), FULL);
            x.undo();
            t.due("undone", x.open(), 3);
        });
        t.test("11: a reader begins in a swap, and though no cell is free", () -> {
            CountedTables x = Stores.withFreeCells(0);
            x.write(0, 1);
            x.begin();
            t.due("open", x.open(), 2);
            t.due("number", x.reader(2), 4);
            t.due("page", x.readBy(2, 0), 200);
        });
    }

    private static void close() {
        t.test("12: reader: a reader", () -> {
            CountedTables x = new CountedTables();
            t.due("none", x.close(0), UNKNOWN);
            for (int i = 0; i < 4; i++) {
                x.open();
            }
            t.due("-1", x.close(-1), UNKNOWN);
            t.due("4", x.close(4), UNKNOWN);
            t.due("lowest", x.close(LOWEST), UNKNOWN);
            t.due("greatest", x.close(GREATEST), UNKNOWN);
            t.due("readers", x.count(8), 4);
            t.due("3", x.close(3), 3);
            t.due("3 again", x.close(3), UNKNOWN);
            t.due("0", x.close(0), 2);
            t.due("0 again", x.close(0), UNKNOWN);
            t.due("1", x.close(1), 1);
            t.due("2", x.close(2), 0);
            t.due("none is left", x.close(2), UNKNOWN);
        });
        t.test("12: a reader that ends in a swap leaves its cells to it", () -> {
            CountedTables x = Stores.withFreeCells(0);
            x.write(0, 1);
            x.begin();
            t.due("full", x.step(), FULL);
            t.due("close", x.close(1), 1);
            t.due("step", x.step(), 2);
            t.due("the reader's lowest cell", x.cell(8, 7), 0);
        });
    }

    private static void type() {
        t.test("13: character: any character", () -> {
            char[] any = {0, ' ', '0', 127, 128, 255, 256, 0x0660, 0x2212, 0xD800, 0xDFFF, 0xFFFE, 0xFFFF};
            CountedTables x = new CountedTables();
            for (int i = 0; i < any.length; i++) {
                t.due("type " + (int) any[i], x.type(any[i]), i + 1);
            }
            t.due("length", x.count(15), any.length);
        });
        t.test("13: FULL if it has 60 characters", () -> {
            CountedTables x = new CountedTables();
            for (int i = 1; i <= 60; i++) {
                t.due("type", x.type(','), i);
            }
            t.due("the 61st", x.type(','), FULL);
            t.due("any", x.type((char) 0), FULL);
            t.due("length", x.count(15), 60);
        });
        t.test("13: no act", () -> {
            CountedTables x = new CountedTables();
            x.write(0, 1);
            x.type('1');
            t.due("states", x.count(14), 1);
            t.due("undo", x.undo(), 0);
            t.due("length", x.count(15), 1);
        });
        t.test("13: in a swap too", () -> {
            CountedTables x = Stores.inSwap(1);
            t.due("type", x.type('1'), 1);
            t.due("clearText", x.clearText(), 1);
        });
    }

    private static void clearText() {
        t.test("14: Returns the length that it had", () -> {
            for (int length = 0; length <= 60; length++) {
                CountedTables x = new CountedTables();
                for (int i = 0; i < length; i++) {
                    x.type('0');
                }
                t.due("length", x.clearText(), length);
                t.due("emptied", x.count(15), 0);
                t.due("again", x.clearText(), 0);
                t.due("no text", x.writeAll(), -100);
                t.due("no act", x.count(14), 0);
            }
        });
    }

    private static void undo() {
        t.test("15: Returns the number of states that are left; NONE if the history is empty", () -> {
            CountedTables x = new CountedTables();
            t.due("empty", x.undo(), NONE);
            for (int i = 0; i < 5; i++) {
                x.crash(false);
            }
            for (int left = 3; left >= 0; left--) {
                t.due("undo", x.undo(), left);
                t.due("states", x.count(14), left);
                t.due("crashes", x.count(9), left + 1);
            }
            t.due("empty again", x.undo(), NONE);
            t.due("crashes", x.count(9), 1);
        });
        t.test("15: a state that was restored is recorded anew by the next act", () -> {
            CountedTables x = new CountedTables();
            x.write(0, 1);
            x.undo();
            x.write(0, 2);
            t.due("undo", x.undo(), 0);
            t.due("none", x.readDesk(0), NONE);
            t.due("undone acts don't come back", x.undo(), NONE);
        });
        t.test("15: a swap that was ended goes on again", () -> {
            CountedTables x = Stores.inSwap(3);
            x.step();
            x.undo();
            t.due("owed", x.count(4), 1);
            t.due("desk", x.count(3), 3);
            t.due("desk", x.clear(), NOT_POSSIBLE);
            t.due("step", x.step(), 0);
            t.due("number", x.count(0), 3);
        });
    }

    private static void keep() {
        t.test("16: Returns the number of the old generation", () -> {
            CountedTables x = Stores.inSwap(3);
            t.due("in a swap", x.keep(), 2);
            x.step();
            t.due("behind it", x.keep(), 3);
            t.due("a new one", new CountedTables().keep(), 1);
        });
        t.test("16: in place of the one that was", () -> {
            CountedTables x = new CountedTables();
            x.write(0, 1);
            x.keep();
            x.write(0, 2);
            x.keep();
            x.clear();
            x.restore();
            t.due("the later one", x.readDesk(0), 2);
            x.restore();
            t.due("there is only one", x.readDesk(0), 2);
        });
        t.test("16: no act, also with an empty and a full history", () -> {
            CountedTables x = new CountedTables();
            x.keep();
            t.due("empty", x.count(14), 0);
            for (int i = 0; i < 4; i++) {
                x.write(0, i);
            }
            x.keep();
            t.due("full", x.count(14), 4);
            for (int i = 2; i >= 0; i--) {
                x.undo();
                t.due("page", x.readDesk(0), i);
            }
            t.due("the oldest", x.undo(), 0);
            t.due("page", x.readDesk(0), NONE);
        });
        t.test("16: what happens later does not reach into the snapshot", () -> {
            CountedTables x = Stores.inSwap(1);
            x.open();
            x.keep();
            x.finish();
            x.close(0);
            Stores.swapAllPages(x, 800);
            x.crash(true);
            t.due("restore", x.restore(), 2);
            t.due("owed", x.count(4), 3);
            t.due("reader", x.reader(0), 2);
            t.due("desk", x.readDesk(4), 57);
            t.due("wear", x.count(11), 3);
            t.due("cell 3", x.cell(3, 0), 0);
            t.due("crashes", x.count(9), 0);
        });
    }

    private static void restore() {
        t.test("17: Returns the number of the old generation then; NONE if there is no snapshot", () -> {
            CountedTables x = Stores.inSwap(4);
            t.due("none", x.restore(), NONE);
            t.due("number", x.count(0), 3);
            x.keep();
            Stores.swap(x, 0, 1);
            t.due("back", x.restore(), 3);
            t.due("and again", x.restore(), 3);
        });
        t.test("17: This is an act, though nothing changes", () -> {
            CountedTables x = new CountedTables();
            x.keep();
            for (int i = 1; i <= 6; i++) {
                t.due("restore", x.restore(), 1);
                t.due("states", x.count(14), Math.min(i, 4));
            }
            x.write(0, 1);
            x.restore();
            t.due("as it was", x.count(3), 0);
            t.due("undo", x.undo(), 3);
            t.due("the state before it", x.readDesk(0), 1);
        });
        t.test("17: the snapshot, which stays", () -> {
            CountedTables x = new CountedTables();
            x.write(0, 1);
            x.keep();
            x.restore();
            x.write(0, 2);
            x.undo();
            x.undo();
            x.undo();
            t.due("undone all", x.count(3), 0);
            x.restore();
            t.due("page", x.readDesk(0), 1);
        });
    }

    private static void read() {
        t.test("18: page: 0 to 7; UNKNOWN; NONE if it has no cell", () -> {
            CountedTables x = new CountedTables();
            Stores.swap(x, 0, 0);
            Stores.swap(x, 7, 999);
            t.due("0", x.read(0), 0);
            t.due("7", x.read(7), 999);
            t.due("no cell", x.read(1), NONE);
            t.due("-1", x.read(-1), UNKNOWN);
            t.due("8", x.read(8), UNKNOWN);
            t.due("lowest", x.read(LOWEST), UNKNOWN);
            t.due("greatest", x.read(GREATEST), UNKNOWN);
            x.drop(7);
            t.due("dropped on the desk", x.read(7), 999);
            x.begin();
            x.finish();
            t.due("dropped", x.read(7), NONE);
        });
    }

    private static void readDesk() {
        t.test("19: page: 0 to 7; UNKNOWN; NONE if there is none", () -> {
            CountedTables x = new CountedTables();
            Stores.swap(x, 7, 999);
            x.write(0, 0);
            t.due("0", x.readDesk(0), 0);
            t.due("7", x.readDesk(7), 999);
            t.due("none", x.readDesk(1), NONE);
            t.due("-1", x.readDesk(-1), UNKNOWN);
            t.due("8", x.readDesk(8), UNKNOWN);
            t.due("lowest", x.readDesk(LOWEST), UNKNOWN);
            t.due("greatest", x.readDesk(GREATEST), UNKNOWN);
            x.drop(7);
            t.due("dropped, though the old generation has it", x.readDesk(7), NONE);
            x.clear();
            t.due("cleared", x.readDesk(7), 999);
        });
    }

    private static void readBy() {
        t.test("20: reader: a reader; page: 0 to 7; UNKNOWN (reader or page)", () -> {
            CountedTables x = new CountedTables();
            Stores.swapAllPages(x, 990);
            t.due("no reader", x.readBy(0, 0), UNKNOWN);
            t.due("neither", x.readBy(4, 8), UNKNOWN);
            for (int i = 0; i < 4; i++) {
                t.due("not yet", x.readBy(i, 0), UNKNOWN);
                x.open();
                t.due("page 0", x.readBy(i, 0), 990);
                t.due("page 7", x.readBy(i, 7), 997);
                t.due("page -1", x.readBy(i, -1), UNKNOWN);
                t.due("page 8", x.readBy(i, 8), UNKNOWN);
            }
            t.due("reader -1", x.readBy(-1, 0), UNKNOWN);
            t.due("reader 4", x.readBy(4, 0), UNKNOWN);
            t.due("lowest reader", x.readBy(LOWEST, 0), UNKNOWN);
            t.due("greatest reader", x.readBy(GREATEST, 0), UNKNOWN);
            t.due("lowest page", x.readBy(0, LOWEST), UNKNOWN);
            t.due("greatest page", x.readBy(0, GREATEST), UNKNOWN);
            x.close(2);
            t.due("ended", x.readBy(2, 0), UNKNOWN);
            t.due("others", x.readBy(3, 0), 990);
        });
        t.test("20: NONE if it has no cell", () -> {
            CountedTables x = new CountedTables();
            Stores.swap(x, 3, 5);
            x.open();
            Stores.swap(x, 4, 6);
            t.due("page 3", x.readBy(0, 3), 5);
            t.due("page 4", x.readBy(0, 4), NONE);
            x.drop(3);
            x.begin();
            x.finish();
            t.due("dropped later", x.readBy(0, 3), 5);
            t.due("a reader of today", x.open(), 1);
            t.due("page 3", x.readBy(1, 3), NONE);
        });
    }

    private static void cell() {
        t.test("21: cell: 0 to 23; what: 0 to 7", () -> {
            CountedTables x = new CountedTables();
            t.due("0", x.cell(0, 0), 0);
            t.due("23", x.cell(23, 7), NONE);
            t.due("cell -1", x.cell(-1, 0), UNKNOWN);
            t.due("cell 24", x.cell(24, 0), UNKNOWN);
            t.due("lowest cell", x.cell(LOWEST, 0), UNKNOWN);
            t.due("greatest cell", x.cell(GREATEST, 0), UNKNOWN);
            t.due("what -1", x.cell(0, -1), BAD_VALUE);
            t.due("what 8", x.cell(0, 8), BAD_VALUE);
            t.due("lowest what", x.cell(23, LOWEST), BAD_VALUE);
            t.due("greatest what", x.cell(23, GREATEST), BAD_VALUE);
        });
        t.test("21: UNKNOWN; BAD_VALUE", () -> {
            CountedTables x = new CountedTables();
            t.due("both", x.cell(24, 8), UNKNOWN);
            t.due("both below", x.cell(-1, -1), UNKNOWN);
        });
        t.test("21: what: 4, 5, 6 and 7 of a cell that all but the swap have", () -> {
            CountedTables x = new CountedTables();
            Stores.swap(x, 7, 5);
            for (int i = 0; i < 4; i++) {
                t.due("readers", x.cell(0, 6), i);
                x.open();
            }
            t.due("four readers", x.cell(0, 6), 4);
            t.due("page", x.cell(0, 5), 7);
            t.due("not written by a swap that goes on", x.cell(0, 7), NONE);
            t.due("not free", x.cell(0, 4), 0);
            x.drop(7);
            x.begin();
            x.finish();
            for (int i = 3; i >= 0; i--) {
                t.due("not free", x.cell(0, 4), 0);
                x.close(i);
                t.due("readers", x.cell(0, 6), i);
            }
            t.due("page without", x.cell(0, 5), NONE);
            t.due("free", x.cell(0, 4), 1);
        });
        t.test("21: what: 7 for the page for which the swap wrote it (NONE without)", () -> {
            CountedTables x = Stores.inSwap(0);
            t.due("not yet", x.cell(2, 7), NONE);
            x.step();
            t.due("written", x.cell(2, 7), 1);
            t.due("not the next one", x.cell(3, 7), NONE);
            t.due("not the old page", x.cell(2, 5), NONE);
            x.step();
            t.due("the next one", x.cell(3, 7), 4);
            x.step();
            t.due("behind the table", x.cell(2, 7), 1);
            x.step();
            t.due("behind the mark", x.cell(2, 7), NONE);
            t.due("the old page", x.cell(2, 5), 1);
            t.due("page 0 as a page", Stores.withFreeCells(0).cell(16, 5), 0);
        });
    }

    private static void table() {
        t.test("22: table: 0 or 1; what: 0 to 3, 10 to 17", () -> {
            CountedTables x = new CountedTables();
            for (int what = -3; what <= 21; what++) {
                boolean bad = what < 0 || what > 3 && what < 10 || what > 17;
                for (int table = 0; table < 2; table++) {
                    int got = x.table(table, what);
                    t.due("BAD_VALUE for " + what, got == BAD_VALUE ? 1 : 0, bad ? 1 : 0);
                    t.due("UNKNOWN for " + what, got == UNKNOWN ? 1 : 0, 0);
                }
                t.due("table -1", x.table(-1, what), UNKNOWN);
                t.due("table 2", x.table(2, what), UNKNOWN);
            }
            t.due("lowest table", x.table(LOWEST, 0), UNKNOWN);
            t.due("greatest table", x.table(GREATEST, 0), UNKNOWN);
            t.due("lowest what", x.table(0, LOWEST), BAD_VALUE);
            t.due("greatest what", x.table(1, GREATEST), BAD_VALUE);
            t.due("both", x.table(2, 4), UNKNOWN);
        });
        t.test("22: what: 3 for the pages that have cells by it (a set, as bits)", () -> {
            CountedTables x = new CountedTables();
            int set = 0;
            for (int page = 0; page < 8; page++) {
                Stores.swap(x, page, page);
                set |= 1 << page;
                t.due("grown", x.table(x.count(1), 3), set);
            }
            for (int page = 0; page < 8; page++) {
                x.drop(page);
                x.begin();
                x.finish();
                set &= ~(1 << page);
                t.due("shrunk", x.table(x.count(1), 3), set);
                t.due("NONE without", x.table(x.count(1), 10 + page), NONE);
            }
        });
        t.test("22: what: 10 to 17 for the cells of the pages 0 to 7 (NONE without)", () -> {
            CountedTables x = Stores.withFreeCells(0);
            for (int page = 0; page < 8; page++) {
                t.due("of the old one", x.table(1, 10 + page), 16 + page);
                t.due("of the other", x.table(0, 10 + page), 8 + page);
            }
        });
    }

    private static void owed() {
        t.test("23: BAD_VALUE (place is negative, or what)", () -> {
            CountedTables x = Stores.inSwap(0);
            t.due("place -1", x.owed(-1, 0), BAD_VALUE);
            t.due("lowest place", x.owed(LOWEST, 1), BAD_VALUE);
            t.due("what -1", x.owed(0, -1), BAD_VALUE);
            t.due("what 2", x.owed(0, 2), BAD_VALUE);
            t.due("lowest what", x.owed(0, LOWEST), BAD_VALUE);
            t.due("greatest what", x.owed(0, GREATEST), BAD_VALUE);
            t.due("what 0", x.owed(0, 0), 0);
            t.due("what 1", x.owed(0, 1), 1);
        });
        t.test("23: BAD_VALUE before NONE", () -> {
            CountedTables x = Stores.inSwap(0);
            t.due("not so many, and what", x.owed(4, 2), BAD_VALUE);
            t.due("not so many, and what below", x.owed(GREATEST, -1), BAD_VALUE);
            CountedTables y = new CountedTables();
            t.due("none goes on, and place", y.owed(-1, 0), BAD_VALUE);
            t.due("none goes on, and what", y.owed(0, 2), BAD_VALUE);
            t.due("none goes on", y.owed(0, 0), NONE);
        });
        t.test("23: NONE if it does not owe so many (or none goes on)", () -> {
            CountedTables x = new CountedTables();
            for (int page = 0; page < 8; page++) {
                x.write(page, page);
            }
            t.due("before begin", x.owed(0, 0), NONE);
            x.begin();
            for (int left = 10; left > 0; left--) {
                t.due("the last one", x.owed(left - 1, 0), 2);
                t.due("one more", x.owed(left, 0), NONE);
                t.due("one more's page", x.owed(left, 1), NONE);
                t.due("greatest place", x.owed(GREATEST, 0), NONE);
                x.step();
            }
            t.due("done", x.owed(0, 0), NONE);
            CountedTables y = Stores.inSwap(1);
            y.giveUp();
            t.due("given up", y.owed(0, 0), NONE);
            CountedTables z = Stores.inSwap(1);
            z.crash(false);
            t.due("crashed", z.owed(0, 0), NONE);
        });
        t.test("23: what: 0 and 1 at every place", () -> {
            int[] kinds = {0, 0, 1, 2};
            int[] pages = {1, 4, NONE, NONE};
            for (int done = 0; done < 4; done++) {
                CountedTables x = Stores.inSwap(done);
                for (int place = 0; place + done < 4; place++) {
                    t.due("kind", x.owed(place, 0), kinds[place + done]);
                    t.due("page", x.owed(place, 1), pages[place + done]);
                }
            }
        });
    }

    private static void reader() {
        t.test("24: reader: a reader; UNKNOWN", () -> {
            CountedTables x = new CountedTables();
            for (int i = 0; i < 4; i++) {
                t.due("not yet", x.reader(i), UNKNOWN);
                x.open();
                t.due("number", x.reader(i), i + 1);
                Stores.swap(x, 0, i);
            }
            t.due("-1", x.reader(-1), UNKNOWN);
            t.due("4", x.reader(4), UNKNOWN);
            t.due("lowest", x.reader(LOWEST), UNKNOWN);
            t.due("greatest", x.reader(GREATEST), UNKNOWN);
            x.close(1);
            t.due("ended", x.reader(1), UNKNOWN);
            t.due("others", x.reader(3), 4);
            x.open();
            t.due("begun anew", x.reader(1), 5);
        });
    }

    private static void unevenness() {
        t.test("25: the greatest wear, as a double, less the mean of the wear of all cells", () -> {
            CountedTables x = new CountedTables();
            t.dueDouble("all 0", x.unevenness(), 0.0);
            x.write(0, 1);
            for (int all = 1; all <= 72; all++) {
                x.begin();
                x.step();
                x.giveUp();
                t.dueDouble("wear " + all, x.unevenness(), (double) ((all + 23) / 24) - (double) all / 24.0);
            }
            t.dueDouble("all alike", x.unevenness(), 0.0);
        });
        t.test("25: of one cell that is worn alone", () -> {
            CountedTables x = Stores.withFreeCells(1);
            t.dueDouble("23 cells", x.unevenness(), 1.0 - 23.0 / 24.0);
            x.write(0, 1);
            for (int i = 1; i <= 100; i++) {
                x.begin();
                x.step();
                x.giveUp();
                t.dueDouble("wear " + i, x.unevenness(), (double) i - (double) (23 + i) / 24.0);
            }
        });
        t.test("25: a torn cell is worn too", () -> {
            CountedTables x = new CountedTables();
            x.write(0, 1);
            x.begin();
            x.crash(true);
            t.dueDouble("one", x.unevenness(), 1.0 - 1.0 / 24.0);
        });
    }

    private static void unevennessBits() {
        t.test("26: cast to a float, as bits (Float.floatToIntBits)", () -> {
            CountedTables x = new CountedTables();
            t.due("all 0", x.unevennessBits(), 0);
            x.write(0, 1);
            for (int all = 1; all <= 96; all++) {
                x.begin();
                x.step();
                x.giveUp();
                double want = (double) ((all + 23) / 24) - (double) all / 24.0;
                t.due("wear " + all, x.unevennessBits(), Float.floatToIntBits((float) want));
            }
            CountedTables y = Stores.withFreeCells(1);
            y.write(0, 1);
            for (int i = 1; i <= 100; i++) {
                y.begin();
                y.step();
                y.giveUp();
                double want = (double) i - (double) (23 + i) / 24.0;
                t.due("wear of one cell " + i, y.unevennessBits(), Float.floatToIntBits((float) want));
            }
        });
    }

    private static void countRanges() {
        t.test("27: what: 0 to 16; BAD_VALUE", () -> {
            CountedTables x = new CountedTables();
            t.due("-1", x.count(-1), BAD_VALUE);
            t.due("17", x.count(17), BAD_VALUE);
            t.due("lowest", x.count(LOWEST), BAD_VALUE);
            t.due("greatest", x.count(GREATEST), BAD_VALUE);
            for (int what = 0; what <= 16; what++) {
                t.due("no error of " + what, x.count(what) >= 0 ? 1 : 0, 1);
            }
        });
    }

    private static void dueCounts(String when, CountedTables x, int... want) {
        for (int what = 0; what < want.length; what++) {
            t.due(when + ", count(" + what + ")", x.count(what), want[what]);
        }
    }

    private static void countEmpty() {
        t.test("27: all counts of a new one", () -> {
            dueCounts("new", new CountedTables(), 1, 0, 0, 0, 0, 0, 24, 0, 0, 0, 0, 0, 0, 0, 0, 0, 0);
        });
        t.test("27: all counts at each step of a swap", () -> {
            dueCounts("0 done", Stores.inSwap(0), 2, 1, 2, 3, 4, 0, 22, 0, 0, 0, 1, 2, 0, 1, 4, 0, 2);
            dueCounts("1 done", Stores.inSwap(1), 2, 1, 2, 3, 3, 1, 21, 0, 0, 0, 1, 3, 0, 1, 4, 0, 1);
            dueCounts("2 done", Stores.inSwap(2), 2, 1, 2, 3, 2, 2, 20, 0, 0, 0, 1, 4, 0, 1, 4, 0, 0);
            dueCounts("3 done", Stores.inSwap(3), 2, 1, 2, 3, 1, 3, 20, 0, 0, 0, 1, 4, 0, 1, 4, 0, 0);
            dueCounts("all done", Stores.inSwap(4), 3, 0, 3, 0, 0, 0, 21, 0, 0, 0, 1, 4, 0, 2, 4, 0, 0);
        });
        t.test("27: all counts behind a crash at each step", () -> {
            int[] all = {3, 4, 4, 4};
            int[] torn = {1, 1, 0, 0};
            for (int done = 0; done < 4; done++) {
                CountedTables x = Stores.inSwap(done);
                x.crash(true);
                dueCounts(done + " done", x, 2, 1, 2, 0, 0, 0, 22, torn[done], 0, 1, 1, all[done], 0, 1, 4, 0, 0);
            }
        });
    }

    private static void countFull() {
        t.test("27: all counts where all is full", () -> {
            CountedTables x = Stores.withFreeCells(0);
            x.open();
            x.open();
            for (int page = 0; page < 8; page++) {
                x.write(page, 999);
            }
            x.begin();
            for (int i = 0; i < 60; i++) {
                x.type('9');
            }
            dueCounts("full", x, 4, 1, 8, 8, 10, 0, 0, 0, 4, 0, 1, 24, 16, 3, 4, 60, 8);
            x.close(0);
            dueCounts("a reader ended", x, 4, 1, 8, 8, 10, 0, 8, 0, 3, 0, 1, 24, 8, 3, 4, 60, 8);
            x.step();
            dueCounts("a step", x, 4, 1, 8, 8, 9, 1, 7, 0, 3, 0, 2, 25, 8, 3, 4, 60, 7);
            x.finish();
            dueCounts("finished", x, 5, 0, 8, 0, 0, 0, 0, 0, 3, 0, 2, 32, 16, 4, 4, 60, 0);
            x.crash(true);
            dueCounts("crashed", x, 5, 0, 8, 0, 0, 0, 16, 0, 0, 1, 2, 32, 0, 4, 4, 60, 0);
            for (int left = 3; left >= 0; left--) {
                x.undo();
            }
            dueCounts("undone", x, 4, 1, 8, 8, 10, 0, 0, 0, 4, 0, 1, 24, 16, 3, 0, 60, 8);
        });
    }
}
