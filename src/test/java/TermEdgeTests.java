/** The boundary cases of the document's 'Terms', a test for each sentence that names one. */
public final class TermEdgeTests implements Answers {
    private static final Sentences t = new Sentences("TermEdgeTests");

    private TermEdgeTests() {
    }

    public static void main(String[] args) {
        objects();
        cells();
        seals();
        pagesAndTables();
        desk();
        stepsOfSwaps();
        cellsOfSteps();
        tablesOfSteps();
        marksOfSteps();
        freeCells();
        noFreeCell();
        deskInSwaps();
        tornSteps();
        untornSteps();
        crashesWithoutStep();
        readers();
        readersKeep();
        lengthOfTexts();
        signsOfTexts();
        contentsOfTexts();
        endsOfTexts();
        history();
        states();
        t.end();
    }

    private static void objects() {
        t.test("An object is used for at most 512 calls after it has been made", () -> {
            CountedTables x = new CountedTables();
            for (int i = 0; i < 170; i++) {
                t.due("page told", x.write(i % 8, i), 1);
                t.due("begin", x.begin(), 3);
                t.due("finish", x.finish(), 0);
            }
            t.due("content of the last swap", x.read(169 % 8), 169);
            t.due("the 512th call", x.count(0), 171);
            t.due("calls", x.calls(), 512);
            CountedTables y = new CountedTables();
            y.open();
            for (int i = 0; i < 510; i++) {
                t.due("crash", y.crash(true), 1);
            }
            t.due("crashes", y.count(9), 510);
        });
        t.test("An object has nothing of another one", () -> {
            CountedTables x = Stores.inSwap(4);
            x.keep();
            x.open();
            x.type('0');
            CountedTables y = new CountedTables();
            t.due("number", y.count(0), 1);
            t.due("wear", y.count(11), 0);
            t.due("text", y.count(15), 0);
            t.due("states", y.count(14), 0);
            t.due("snapshot", y.restore(), NONE);
            Stores.swapAllPages(y, 7);
            y.crash(true);
            t.due("number of the first", x.count(0), 3);
            t.due("page of the first", x.read(1), 10);
            t.due("crashes of the first", x.count(9), 0);
            t.due("readers of the first", x.count(8), 1);
        });
    }

    private static void cells() {
        t.test("There is a store of 24 cells, numbered from 0", () -> {
            CountedTables x = Stores.withFreeCells(0);
            t.due("cells of the old generation", x.count(2), 8);
            t.due("cells of readers", x.count(12), 16);
            t.due("free cells", x.count(6), 0);
            for (int cell = 0; cell < 24; cell++) {
                t.due("wear of cell " + cell, x.cell(cell, 3), 1);
                t.due("content of cell " + cell, x.cell(cell, 0), cell / 8 * 100 + cell % 8);
            }
            t.due("cell 24", x.cell(24, 3), UNKNOWN);
            t.due("cell -1", x.cell(-1, 3), UNKNOWN);
        });
        t.test("A cell holds a content (0 to 999; 0 at first)", () -> {
            CountedTables x = new CountedTables();
            t.due("cell 0", x.cell(0, 0), 0);
            t.due("cell 23", x.cell(23, 0), 0);
            Stores.swap(x, 0, 999);
            t.due("the greatest", x.cell(0, 0), 999);
            Stores.swap(x, 0, 0);
            t.due("the least", x.cell(1, 0), 0);
            t.due("written with it", x.cell(1, 3), 1);
        });
        t.test("at first all are sound", () -> {
            CountedTables x = new CountedTables();
            for (int cell = 0; cell < 24; cell++) {
                t.due("cell " + cell, x.cell(cell, 2), 0);
                t.due("seal of cell " + cell, x.cell(cell, 1), 11);
            }
            t.due("torn cells", x.count(7), 0);
        });
        t.test("Its wear is how often it was written", () -> {
            CountedTables x = Stores.inSwap(0);
            t.due("not by begin", x.cell(2, 3), 0);
            x.step();
            t.due("by a step", x.cell(2, 3), 1);
            x.step();
            t.due("all by two swaps", x.count(11), 4);
            x.step();
            x.step();
            t.due("not by the table and the mark", x.count(11), 4);
            x.write(0, 1);
            x.begin();
            x.crash(false);
            t.due("not by a crash that tears nothing", x.count(11), 4);
            x.write(0, 1);
            x.begin();
            x.crash(true);
            t.due("by a torn one too", x.count(11), 5);
            t.due("the torn cell's", x.cell(4, 3), 1);
        });
        t.test("Its wear grows each time", () -> {
            CountedTables x = Stores.withFreeCells(1);
            x.write(0, 7);
            for (int i = 0; i < 100; i++) {
                x.begin();
                t.due("the only free cell", x.step(), 2);
                t.due("wear", x.cell(23, 3), i + 1);
                x.giveUp();
            }
            t.due("greatest", x.count(10), 100);
            t.due("all", x.count(11), 123);
        });
    }

    private static void seals() {
        t.test("the seal of a content x is (x * 37 + 11) % 101", () -> {
            for (int first = 0; first < 1000; first += 50) {
                CountedTables x = new CountedTables();
                for (int i = 0; i < 50; i++) {
                    x.write(0, first + i);
                    x.begin();
                    x.step();
                    t.due("content", x.cell(i % 24, 0), first + i);
                    t.due("seal of " + (first + i), x.cell(i % 24, 1), Stores.sealOf(first + i));
                    t.due("sound", x.cell(i % 24, 2), 0);
                    x.giveUp();
                }
            }
        });
        t.test("one that is written, but torn, has this seal plus 1, % 101", () -> {
            for (int first = 0; first < 1000; first += 50) {
                CountedTables x = new CountedTables();
                for (int i = 0; i < 50; i++) {
                    x.write(7, first + i);
                    x.begin();
                    x.crash(true);
                    t.due("content", x.cell(i % 24, 0), first + i);
                    t.due("seal of " + (first + i), x.cell(i % 24, 1), Stores.tornSealOf(first + i));
                    t.due("torn", x.cell(i % 24, 2), 1);
                }
                t.due("all are torn", x.count(7), 24);
            }
        });
        t.test("the seal 100 goes round to 0", () -> {
            CountedTables x = new CountedTables();
            x.write(0, 57);
            x.begin();
            x.step();
            t.due("sound", x.cell(0, 1), 100);
            x.giveUp();
            x.begin();
            x.crash(true);
            t.due("torn", x.cell(1, 1), 0);
            t.due("is torn", x.cell(1, 2), 1);
        });
        t.test("A cell that is written has its content's seal then", () -> {
            CountedTables x = Stores.withFreeCells(1);
            for (int page = 0; page < 7; page++) {
                t.due("kept", x.read(page), 200 + page);
            }
            x.write(0, 5);
            x.begin();
            x.step();
            t.due("written", x.cell(23, 1), Stores.sealOf(5));
            x.crash(false);
            for (int i = 0; i < 16; i++) {
                x.write(0, 6);
                x.begin();
                x.crash(true);
            }
            t.due("torn", x.cell(23, 2) + x.cell(0, 2), 2);
            t.due("every cell that is free is torn", x.count(7), 16);
            t.due("they are free", x.count(6), 16);
            x.write(0, 6);
            for (int i = 0; i < 16; i++) {
                x.begin();
                x.step();
                x.giveUp();
            }
            t.due("sound again", x.count(7), 0);
        });
    }

    private static void pagesAndTables() {
        t.test("There are 8 pages, numbered from 0", () -> {
            CountedTables x = new CountedTables();
            Stores.swapAllPages(x, 990);
            t.due("pages", x.count(2), 8);
            t.due("page 0", x.read(0), 990);
            t.due("page 7", x.read(7), 997);
            t.due("page -1", x.read(-1), UNKNOWN);
            t.due("page 8", x.read(8), UNKNOWN);
        });
        t.test("At first the old one is the table 0, with the number 1, right, without any cells", () -> {
            CountedTables x = new CountedTables();
            t.due("number", x.table(0, 0), 1);
            t.due("torn", x.table(0, 1), 0);
            t.due("old", x.table(0, 2), 1);
            t.due("pages", x.table(0, 3), 0);
            t.due("mark", x.count(1), 0);
        });
        t.test("the table 1 has the number 0, and is right, without any cells", () -> {
            CountedTables x = new CountedTables();
            t.due("number", x.table(1, 0), 0);
            t.due("torn", x.table(1, 1), 0);
            t.due("old", x.table(1, 2), 0);
            t.due("pages", x.table(1, 3), 0);
        });
        t.test("there is a mark that tells which of them is the old one", () -> {
            CountedTables x = new CountedTables();
            for (int i = 1; i <= 6; i++) {
                Stores.swap(x, 0, i);
                t.due("mark", x.count(1), i % 2);
                t.due("old", x.table(i % 2, 2), 1);
                t.due("not old", x.table(1 - i % 2, 2), 0);
                t.due("number", x.table(i % 2, 0), i + 1);
                t.due("number of the other", x.table(1 - i % 2, 0), i);
            }
        });
        t.test("The mark can never be torn", () -> {
            CountedTables x = Stores.inSwap(3);
            t.due("crash", x.crash(true), 2);
            t.due("mark", x.count(1), 1);
            t.due("table 0", x.table(0, 1), 0);
            t.due("table 1", x.table(1, 1), 0);
            t.due("cells", x.count(7), 0);
        });
        t.test("The old generation is what the table tells to which the mark points", () -> {
            CountedTables x = Stores.inSwap(3);
            t.due("the other is written", x.table(0, 3), 2 + 4 + 16);
            t.due("but not read: page 0", x.read(0), 500);
            t.due("but not read: page 1", x.read(1), NONE);
            t.due("but not counted", x.count(2), 2);
            t.due("mark", x.step(), 0);
            t.due("read: page 0", x.read(0), NONE);
            t.due("read: page 1", x.read(1), 10);
            t.due("counted", x.count(2), 3);
        });
    }

    private static void desk() {
        t.test("Beside these there is a desk, which is gone in a crash", () -> {
            CountedTables x = new CountedTables();
            x.write(0, 1);
            x.drop(7);
            x.crash(false);
            t.due("told", x.count(3), 0);
            t.due("page 0", x.readDesk(0), NONE);
            t.due("no swap of it", x.begin(), NONE);
            t.due("told anew", x.drop(7), 1);
        });
        t.test("To write a page: its content comes to the desk, in the place of what is there for it", () -> {
            CountedTables x = new CountedTables();
            t.due("first", x.write(4, 1), 1);
            t.due("in place", x.write(4, 2), 1);
            t.due("reads", x.readDesk(4), 2);
            t.due("drop", x.drop(4), 1);
            t.due("in place of a drop", x.write(4, 0), 1);
            t.due("reads again", x.readDesk(4), 0);
            t.due("owes one cell", x.begin(), 3);
        });
        t.test("to drop a page: the desk tells that it has none", () -> {
            CountedTables x = new CountedTables();
            Stores.swap(x, 4, 1);
            t.due("drop", x.drop(4), 1);
            t.due("reads", x.readDesk(4), NONE);
            t.due("the old generation", x.read(4), 1);
            t.due("a page that has none", x.drop(5), 2);
        });
        t.test("Reading from the desk tells what the desk has, otherwise what the old generation has", () -> {
            CountedTables x = Stores.inSwap(0);
            t.due("dropped", x.readDesk(0), NONE);
            t.due("written", x.readDesk(1), 10);
            t.due("of the old generation", x.readDesk(2), 502);
            t.due("of neither", x.readDesk(3), NONE);
            x.giveUp();
            x.write(2, 0);
            t.due("both", x.readDesk(2), 0);
        });
        t.test("the desk tells of 0 to 8 pages", () -> {
            CountedTables x = new CountedTables();
            t.due("of none", x.count(3), 0);
            for (int page = 7; page >= 0; page--) {
                t.due("one more", x.write(page, page), 8 - page);
            }
            for (int page = 0; page < 8; page++) {
                t.due("dropped in its place", x.drop(page), 8);
            }
            t.due("of all", x.count(3), 8);
        });
    }

    private static void stepsOfSwaps() {
        t.test("A swap, when it is begun, owes steps", () -> {
            for (int contents = 0; contents <= 8; contents++) {
                CountedTables x = new CountedTables();
                for (int page = 0; page < 8; page++) {
                    if (page < contents) {
                        x.write(page, page);
                    } else {
                        x.drop(page);
                    }
                }
                t.due("with " + contents + " contents", x.begin(), contents + 2);
                t.due("of them cells", x.count(16), contents);
                for (int i = contents + 1; i >= 0; i--) {
                    t.due("step", x.step(), i);
                    t.due("cells owed", x.count(16), Math.max(0, i - 2));
                    t.due("done", x.count(5), i == 0 ? 0 : contents + 2 - i);
                }
                t.due("one too many", x.step(), NONE);
                t.due("pages", x.count(2), contents);
            }
        });
        t.test("for each page of the desk that has a content, by ascending pages", () -> {
            CountedTables x = new CountedTables();
            for (int page = 7; page >= 0; page--) {
                x.write(page, 10 * page);
            }
            x.begin();
            for (int page = 0; page < 8; page++) {
                t.due("owed", x.owed(0, 1), page);
                x.step();
                t.due("written for", x.cell(page, 7), page);
                t.due("content", x.cell(page, 0), 10 * page);
            }
            t.due("then the table", x.owed(0, 0), 1);
        });
    }

    private static void cellsOfSteps() {
        t.test("the free cell with the least wear", () -> {
            CountedTables x = new CountedTables();
            x.write(0, 1);
            for (int i = 0; i < 10; i++) {
                x.begin();
                x.step();
                x.giveUp();
            }
            x.begin();
            x.step();
            t.due("not worn yet", x.cell(10, 7), 0);
            x.giveUp();
            for (int i = 11; i < 24; i++) {
                x.begin();
                x.step();
                x.giveUp();
            }
            t.due("all alike", x.count(11), 24);
            x.write(7, 1);
            x.begin();
            x.step();
            x.step();
            t.due("of several the lowest one", x.cell(0, 7), 0);
            t.due("the next lowest", x.cell(1, 7), 7);
        });
        t.test("least wear goes before the lowest, and the last cell is one of them", () -> {
            CountedTables x = new CountedTables();
            x.write(0, 1);
            for (int i = 0; i < 23; i++) {
                x.begin();
                x.step();
                x.giveUp();
            }
            x.begin();
            x.step();
            t.due("the last cell", x.cell(23, 7), 0);
        });
        t.test("a cell that is worn less, but not free, is left", () -> {
            CountedTables x = Stores.withFreeCells(2);
            x.write(0, 900);
            x.begin();
            x.step();
            t.due("cell 22", x.cell(22, 7), 0);
            x.giveUp();
            x.begin();
            x.step();
            t.due("cell 23", x.cell(23, 7), 0);
            x.giveUp();
            x.begin();
            x.step();
            t.due("cell 22 again", x.cell(22, 3), 2);
            x.giveUp();
            x.close(0);
            x.begin();
            x.step();
            t.due("cell 23 has as much wear as 0 to 7, which are lower", x.cell(0, 7), 0);
        });
    }

    private static void tablesOfSteps() {
        t.test("the table that is not the old one is written", () -> {
            CountedTables x = Stores.inSwap(2);
            t.due("not yet", x.table(0, 0), 1);
            t.due("step", x.step(), 1);
            t.due("its number is that of the old one plus 1", x.table(0, 0), 3);
            t.due("for one that is dropped none", x.table(0, 10), NONE);
            t.due("for a content its new cell", x.table(0, 11), 2);
            t.due("for others the cell of the old generation", x.table(0, 12), 1);
            t.due("for others none without", x.table(0, 13), NONE);
            t.due("for another content its new cell", x.table(0, 14), 3);
            t.due("the last page", x.table(0, 17), NONE);
            t.due("the old one stays", x.table(1, 3), 1 + 4);
            t.due("the old one's number", x.table(1, 0), 2);
        });
        t.test("it is right", () -> {
            CountedTables x = Stores.inSwap(2);
            x.crash(true);
            t.due("torn by a crash", x.table(0, 1), 1);
            t.due("its number", x.table(0, 0), 3);
            x.drop(7);
            x.begin();
            t.due("torn until it is written", x.table(0, 1), 1);
            x.step();
            t.due("right", x.table(0, 1), 0);
            t.due("its number is that of the old one plus 1 again", x.table(0, 0), 3);
            t.due("its cells are those of the old one", x.table(0, 3), 1 + 4);
        });
        t.test("a swap with only pages that are dropped leaves no cells", () -> {
            CountedTables x = new CountedTables();
            Stores.swapAllPages(x, 0);
            for (int page = 0; page < 8; page++) {
                x.drop(page);
            }
            t.due("owes", x.begin(), 2);
            t.due("done", x.finish(), 0);
            t.due("pages", x.table(0, 3), 0);
            t.due("free", x.count(6), 24);
            t.due("number", x.count(0), 3);
        });
    }

    private static void marksOfSteps() {
        t.test("the mark is set to it; with that it is the old generation, and the desk is empty", () -> {
            CountedTables x = Stores.inSwap(3);
            t.due("mark before", x.count(1), 1);
            t.due("desk before", x.count(3), 3);
            t.due("swaps before", x.count(13), 1);
            t.due("step", x.step(), 0);
            t.due("mark", x.count(1), 0);
            t.due("number", x.count(0), 3);
            t.due("desk", x.count(3), 0);
            t.due("swaps", x.count(13), 2);
            t.due("the swap is over", x.giveUp(), NONE);
            t.due("the desk can be changed", x.drop(0), 1);
        });
    }

    private static void freeCells() {
        t.test("A cell is free if the old generation does not have it", () -> {
            CountedTables x = new CountedTables();
            Stores.swap(x, 3, 1);
            t.due("had", x.cell(0, 4), 0);
            Stores.swap(x, 3, 2);
            t.due("by the new one", x.cell(1, 4), 0);
            t.due("free, though the other table has it", x.cell(0, 4), 1);
            t.due("the other table has it", x.table(1, 13), 0);
        });
        t.test("A cell is free if no reader has it", () -> {
            CountedTables x = new CountedTables();
            Stores.swap(x, 3, 1);
            x.open();
            x.open();
            Stores.swap(x, 3, 2);
            t.due("two readers", x.cell(0, 4), 0);
            x.close(0);
            t.due("one reader", x.cell(0, 4), 0);
            x.close(1);
            t.due("no reader", x.cell(0, 4), 1);
            t.due("free cells", x.count(6), 23);
        });
        t.test("A cell is free if the swap that goes on (with a step that is done) does not have it", () -> {
            CountedTables x = new CountedTables();
            x.write(3, 1);
            x.begin();
            t.due("the step is not done", x.cell(0, 4), 1);
            t.due("free cells", x.count(6), 24);
            x.step();
            t.due("the step is done", x.cell(0, 4), 0);
            x.step();
            t.due("the table does not change it", x.count(6), 23);
            x.giveUp();
            t.due("no swap goes on", x.count(6), 24);
        });
        t.test("cells of the old generation stay while the swap drops them", () -> {
            CountedTables x = Stores.inSwap(3);
            t.due("had", x.cell(0, 4), 0);
            t.due("free cells", x.count(6), 20);
            x.step();
            t.due("free", x.cell(0, 4), 1);
            t.due("free cells behind it", x.count(6), 21);
        });
    }

    private static void noFreeCell() {
        t.test("If no cell is free when a step needs one, the step is not possible, and the swap waits", () -> {
            CountedTables x = Stores.withFreeCells(1);
            x.write(0, 1);
            x.write(1, 2);
            t.due("owes", x.begin(), 4);
            t.due("the last free cell", x.step(), 3);
            t.due("none is free", x.count(6), 0);
            t.due("step", x.step(), FULL);
            t.due("waits", x.count(4), 3);
            t.due("done", x.count(5), 1);
            t.due("next", x.owed(0, 1), 1);
            x.close(1);
            t.due("goes on", x.step(), 2);
            t.due("in the lowest that is free", x.cell(8, 7), 1);
        });
        t.test("a step that needs no cell is possible without a free one", () -> {
            CountedTables x = Stores.withFreeCells(1);
            x.write(0, 1);
            x.begin();
            x.step();
            t.due("none is free", x.count(6), 0);
            t.due("table", x.step(), 1);
            t.due("mark", x.step(), 0);
            t.due("the cell of the old generation is free then", x.count(6), 1);
            t.due("which", x.cell(16, 4), 1);
        });
        t.test("a swap of all pages with seven free cells waits for the last, with eight it does not", () -> {
            CountedTables x = Stores.withFreeCells(0);
            x.close(0);
            for (int page = 0; page < 8; page++) {
                x.write(page, 900);
            }
            x.begin();
            t.due("eight", x.finish(), 0);
            CountedTables y = new CountedTables();
            Stores.swapAllPages(y, 0);
            y.open();
            Stores.swap(y, 0, 1);
            y.open();
            Stores.swapAllPages(y, 100);
            t.due("seven", y.count(6), 7);
            for (int page = 0; page < 8; page++) {
                y.write(page, 900);
            }
            t.due("owes", y.begin(), 10);
            t.due("waits", y.finish(), 3);
            t.due("the last page", y.owed(0, 1), 7);
            t.due("none is free", y.count(6), 0);
        });
    }

    private static void deskInSwaps() {
        t.test("While a swap goes on, the desk cannot be changed", () -> {
            for (int done = 0; done < 4; done++) {
                CountedTables x = Stores.inSwap(done);
                Stores.type(x, "1=1,7-");
                t.due("write", x.write(1, 11), NOT_POSSIBLE);
                t.due("write the same", x.write(1, 10), NOT_POSSIBLE);
                t.due("write another page", x.write(7, 0), NOT_POSSIBLE);
                t.due("drop", x.drop(1), NOT_POSSIBLE);
                t.due("drop again", x.drop(0), NOT_POSSIBLE);
                t.due("writeAll", x.writeAll(), NOT_POSSIBLE);
                t.due("clear", x.clear(), NOT_POSSIBLE);
                t.due("told", x.count(3), 3);
                t.due("page 1", x.readDesk(1), 10);
                x.giveUp();
                t.due("behind it: write", x.write(1, 11), 3);
                t.due("behind it: writeAll", x.writeAll(), 2);
                t.due("behind it: drop", x.drop(1), 4);
                t.due("behind it: clear", x.clear(), 4);
            }
        });
    }

    private static void tornSteps() {
        t.test("if that is the writing of a cell, the cell is written, but torn", () -> {
            for (int done = 0; done < 2; done++) {
                CountedTables x = Stores.inSwap(done);
                int cell = 2 + done;
                int content = done == 0 ? 10 : 57;
                t.due("number", x.crash(true), 2);
                t.due("content", x.cell(cell, 0), content);
                t.due("seal", x.cell(cell, 1), Stores.tornSealOf(content));
                t.due("torn", x.cell(cell, 2), 1);
                t.due("wear", x.cell(cell, 3), 1);
                t.due("free", x.cell(cell, 4), 1);
                t.due("torn cells", x.count(7), 1);
                t.due("all wear", x.count(11), 3 + done);
                t.due("the table is as it was", x.table(0, 0), 1);
                t.due("and right", x.table(0, 1), 0);
                behindCrash(x);
            }
        });
        t.test("if it is the writing of the table, the table gets its number and its cells, but is torn", () -> {
            CountedTables x = Stores.inSwap(2);
            t.due("number", x.crash(true), 2);
            t.due("its number", x.table(0, 0), 3);
            t.due("torn", x.table(0, 1), 1);
            t.due("pages", x.table(0, 3), 2 + 4 + 16);
            t.due("dropped", x.table(0, 10), NONE);
            t.due("new", x.table(0, 11), 2);
            t.due("of the old one", x.table(0, 12), 1);
            t.due("new too", x.table(0, 14), 3);
            t.due("no cell is torn", x.count(7), 0);
            t.due("all wear", x.count(11), 4);
            t.due("the old one is right", x.table(1, 1), 0);
            behindCrash(x);
        });
        t.test("if it is the setting of the mark, nothing is torn", () -> {
            CountedTables x = Stores.inSwap(3);
            t.due("number", x.crash(true), 2);
            t.due("the table is written", x.table(0, 0), 3);
            t.due("and right", x.table(0, 1), 0);
            t.due("the mark is not set", x.count(1), 1);
            t.due("no cell is torn", x.count(7), 0);
            behindCrash(x);
        });
        t.test("Of a cell that would be written, but none is free, nothing is torn", () -> {
            CountedTables x = Stores.withFreeCells(1);
            x.write(0, 1);
            x.write(1, 2);
            x.begin();
            x.step();
            t.due("number", x.crash(true), 4);
            t.due("torn", x.count(7), 0);
            t.due("all wear", x.count(11), 24);
            t.due("readers", x.count(8), 0);
            t.due("free", x.count(6), 16);
            CountedTables y = Stores.withFreeCells(1);
            y.write(0, 1);
            y.begin();
            y.crash(true);
            t.due("with one that is free", y.count(7), 1);
            t.due("it is that one", y.cell(23, 2), 1);
        });
    }

    private static void untornSteps() {
        t.test("A crash may tear the step that was next: one that does not leaves it undone", () -> {
            for (int done = 0; done < 4; done++) {
                CountedTables x = Stores.inSwap(done);
                t.due("number", x.crash(false), 2);
                t.due("no cell is torn", x.count(7), 0);
                t.due("all wear", x.count(11), 2 + Math.min(done, 2));
                t.due("number of the table", x.table(0, 0), done < 3 ? 1 : 3);
                t.due("the table is right", x.table(0, 1), 0);
                behindCrash(x);
            }
        });
    }

    /** In a crash the desk, the swap and all readers are gone; of inSwap the old generation stays. */
    private static void behindCrash(CountedTables x) {
        t.due("mark", x.count(1), 1);
        t.due("old number", x.count(0), 2);
        t.due("old page 0", x.read(0), 500);
        t.due("old page 1", x.read(1), NONE);
        t.due("old page 2", x.read(2), 502);
        t.due("desk", x.count(3), 0);
        t.due("owed", x.count(4), 0);
        t.due("done", x.count(5), 0);
        t.due("next", x.owed(0, 0), NONE);
        t.due("written by the swap", x.cell(2, 7), NONE);
        t.due("free", x.count(6), 22);
        t.due("crashes", x.count(9), 1);
        t.due("swaps", x.count(13), 1);
    }

    private static void crashesWithoutStep() {
        t.test("or there is no step, nothing is torn", () -> {
            CountedTables x = Stores.inSwap(4);
            t.due("behind a swap", x.crash(true), 3);
            t.due("torn cells", x.count(7), 0);
            t.due("torn tables", x.table(0, 1) + x.table(1, 1), 0);
            t.due("page", x.read(1), 10);
            CountedTables y = Stores.inSwap(2);
            y.giveUp();
            t.due("behind one that is given up", y.crash(true), 2);
            t.due("torn tables", y.table(0, 1) + y.table(1, 1), 0);
            t.due("desk", y.count(3), 0);
            CountedTables z = new CountedTables();
            z.write(0, 1);
            t.due("before begin", z.crash(true), 1);
            t.due("nothing written", z.count(11), 0);
            t.due("twice", z.crash(true), 1);
            t.due("crashes", z.count(9), 2);
        });
        t.test("In a crash all readers are gone", () -> {
            CountedTables x = new CountedTables();
            Stores.swapAllPages(x, 0);
            for (int i = 0; i < 4; i++) {
                x.open();
            }
            Stores.swapAllPages(x, 100);
            t.due("kept", x.count(12), 8);
            x.crash(false);
            for (int i = 0; i < 4; i++) {
                t.due("reader " + i, x.reader(i), UNKNOWN);
                t.due("its page", x.readBy(i, 0), UNKNOWN);
            }
            t.due("their cells", x.count(12), 0);
            t.due("free", x.count(6), 16);
            t.due("the next one", x.open(), 0);
        });
        t.test("It never has a torn cell, and its table is right", () -> {
            CountedTables x = new CountedTables();
            for (int i = 0; i < 30; i++) {
                x.write(i % 8, i);
                x.begin();
                for (int j = 0; j < i % 4; j++) {
                    x.step();
                }
                x.crash(true);
                t.due("table", x.table(x.count(1), 1), 0);
                int content = x.read(i % 8);
                t.due("page is had or none", content >= 0 || content == NONE ? 1 : 0, 1);
                t.due("the last step done sets it", i % 4 == 3 && content != i ? 1 : 0, 0);
                int cell = x.table(x.count(1), 10 + i % 8);
                t.due("torn cell", cell == NONE ? 0 : x.cell(cell, 2), 0);
            }
        });
    }

    private static void readers() {
        t.test("There are at most 4 readers at a time, with numbers 0 to 3", () -> {
            CountedTables x = new CountedTables();
            for (int i = 0; i < 4; i++) {
                t.due("open", x.open(), i);
                t.due("readers", x.count(8), i + 1);
            }
            t.due("one more", x.open(), FULL);
            t.due("readers", x.count(8), 4);
            t.due("reader 3", x.reader(3), 1);
            t.due("reader 4", x.reader(4), UNKNOWN);
        });
        t.test("the lowest that is free is given", () -> {
            for (int ended = 1; ended < 16; ended++) {
                CountedTables x = new CountedTables();
                for (int i = 0; i < 4; i++) {
                    x.open();
                }
                for (int i = 3; i >= 0; i--) {
                    if ((ended >> i & 1) == 1) {
                        x.close(i);
                    }
                }
                for (int i = 0; i < 4; i++) {
                    if ((ended >> i & 1) == 1) {
                        t.due("of the set " + ended, x.open(), i);
                    }
                }
                t.due("then none", x.open(), FULL);
            }
        });
    }

    private static void readersKeep() {
        t.test("A reader keeps the generation that was the old one when it began, until it ends", () -> {
            CountedTables x = Stores.inSwap(0);
            for (int i = 0; i < 4; i++) {
                t.due("open", x.open(), i);
                x.step();
            }
            t.due("none is left", x.open(), FULL);
            x.close(0);
            t.due("the next one begins behind the swap", x.open(), 0);
            t.due("its number", x.reader(0), 3);
            for (int i = 0; i < 10; i++) {
                Stores.swap(x, 0, 700 + i);
                Stores.swap(x, 2, 800 + i);
            }
            for (int i = 1; i < 4; i++) {
                t.due("number", x.reader(i), 2);
                t.due("page 0", x.readBy(i, 0), 500);
                t.due("page 1", x.readBy(i, 1), NONE);
                t.due("page 2", x.readBy(i, 2), 502);
            }
            t.due("page 0 of the other", x.readBy(0, 0), NONE);
            t.due("page 1 of the other", x.readBy(0, 1), 10);
            t.due("readers of cell 0", x.cell(0, 6), 3);
            t.due("readers of cell 1", x.cell(1, 6), 4);
            t.due("readers of cell 2", x.cell(2, 6), 1);
        });
        t.test("A reader that begins without pages keeps none", () -> {
            CountedTables x = new CountedTables();
            x.open();
            Stores.swapAllPages(x, 0);
            t.due("number", x.reader(0), 1);
            t.due("first page", x.readBy(0, 0), NONE);
            t.due("last page", x.readBy(0, 7), NONE);
            t.due("cells of readers only", x.count(12), 0);
        });
    }

    private static void lengthOfTexts() {
        t.test("There is a text of at most 60 characters, empty at first", () -> {
            CountedTables x = new CountedTables();
            t.due("empty", x.count(15), 0);
            String most = "0-,1-,2-,3-,4-,5-,6-,7-,0-,1-,2-,3-,4-,5-,6-,7-,0-,1-,2-,3=9";
            t.due("60 characters", most.length(), 60);
            for (int i = 0; i < 60; i++) {
                t.due("type", x.type(most.charAt(i)), i + 1);
            }
            t.due("one more", x.type('9'), FULL);
            t.due("and again", x.type(','), FULL);
            t.due("length", x.count(15), 60);
            t.due("entries", x.writeAll(), 20);
            t.due("the last one", x.readDesk(3), 9);
            t.due("cleared", x.clearText(), 60);
            t.due("from the start", x.type('0'), 1);
        });
        t.test("a text of 59 characters has room for one more", () -> {
            CountedTables x = new CountedTables();
            Stores.type(x, "0-,1-,2-,3-,4-,5-,6-,7-,0-,1-,2-,3-,4-,5-,6-,7-,0-,1-,2-,3-");
            t.due("length", x.count(15), 59);
            t.due("entries", x.writeAll(), 20);
            t.due("one more", x.type(','), 60);
            t.due("ends too early", x.writeAll(), -160);
            t.due("no more", x.type('4'), FULL);
            t.due("the fault stays", x.writeAll(), -160);
        });
        t.test("a full text with a fault in its first and in its last character", () -> {
            CountedTables x = new CountedTables();
            String rest = "-,1-,2-,3-,4-,5-,6-,7-,0-,1-,2-,3-,4-,5-,6-,7-,0-,1-,2-,3=9";
            t.due("first", Stores.writeAll(x, "8" + rest), -100);
            t.due("last", Stores.writeAll(x, "0" + rest.substring(0, 58) + "x"), -159);
            t.due("length", x.count(15), 60);
            t.due("full of it", x.type('0'), FULL);
            t.due("nothing told", x.count(3), 0);
        });
    }

    /** What may stand behind each beginning; a "." behind a sign tells that the text may end there. */
    private static void signsOfTexts() {
        String[] beginnings = {"", "3", "3=", "3=0", "3=4", "3=45", "3=456", "3-", "3-,", "3=0,", "3=9,7", "3-,7="};
        String digits = "0.1.2.3.4.5.6.7.8.9.";
        String[] allowed = {
            "01234567", "=-.", digits, ",", digits + ",", digits + ",", ",", ",", "01234567", "01234567", "=-.", digits
        };
        int[] entries = {0, 1, 1, 0, 1, 1, 0, 0, 0, 0, 2, 2};
        t.test("the index, from 0, of the first character that is not allowed at its place", () -> {
            for (int i = 0; i < beginnings.length; i++) {
                CountedTables x = new CountedTables();
                for (int sign = 0; sign < 65536; sign++) {
                    if (x.calls() > 500) {
                        x = new CountedTables();
                    }
                    int at = sign == '.' ? -1 : allowed[i].indexOf((char) sign);
                    boolean ends = at >= 0 && at + 1 < allowed[i].length() && allowed[i].charAt(at + 1) == '.';
                    int fault = beginnings[i].length() + (at >= 0 ? 1 : 0);
                    int want = ends ? entries[i] : -100 - fault;
                    t.due("\"" + beginnings[i] + "\" and " + sign, Stores.writeAll(x, beginnings[i] + (char) sign), want);
                }
            }
        });
    }

    private static void contentsOfTexts() {
        t.test("a content (0 to 999, without a zero in front unless it is the single digit 0)", () -> {
            for (int first = 0; first < 1000; first += 50) {
                CountedTables x = new CountedTables();
                for (int content = first; content < first + 50; content++) {
                    t.due("entry", Stores.writeAll(x, "6=" + content), 1);
                    t.due("content", x.readDesk(6), content);
                }
            }
            CountedTables x = new CountedTables();
            t.due("1000", Stores.writeAll(x, "6=1000"), -105);
            t.due("9999", Stores.writeAll(x, "6=9999,"), -105);
            t.due("00", Stores.writeAll(x, "6=00"), -103);
            t.due("01", Stores.writeAll(x, "6=01"), -103);
            t.due("0999", Stores.writeAll(x, "6=0999"), -103);
            t.due("-1", Stores.writeAll(x, "6=-1"), -102);
            t.due("+1", Stores.writeAll(x, "6=+1"), -102);
            t.due("none of them told", x.count(3), 0);
        });
        t.test("a page (0 to 7)", () -> {
            CountedTables x = new CountedTables();
            for (int page = 0; page < 8; page++) {
                t.due("page", Stores.writeAll(x, page + "=" + page), 1);
                t.due("read", x.readDesk(page), page);
            }
            t.due("8", Stores.writeAll(x, "8=8"), -100);
            t.due("9", Stores.writeAll(x, "9=9"), -100);
            t.due("8 as the second", Stores.writeAll(x, "7-,8-"), -103);
            t.due("07", Stores.writeAll(x, "07-"), -101);
            t.due("10", Stores.writeAll(x, "10-"), -101);
        });
        t.test("one or more entries with \",\" between two", () -> {
            CountedTables x = new CountedTables();
            t.due("none", Stores.writeAll(x, ""), -100);
            t.due("one", Stores.writeAll(x, "0-"), 1);
            t.due("two", Stores.writeAll(x, "0-,1-"), 2);
            t.due("a comma in front", Stores.writeAll(x, ",0-"), -100);
            t.due("a comma behind", Stores.writeAll(x, "0-,"), -103);
            t.due("two commas", Stores.writeAll(x, "0-,,1-"), -103);
            t.due("no comma", Stores.writeAll(x, "0-1-"), -102);
            t.due("a blank", Stores.writeAll(x, "0-, 1-"), -103);
            t.due("another sign", Stores.writeAll(x, "0-;1-"), -102);
            t.due("the first of two faults", Stores.writeAll(x, "0-,9=05"), -103);
        });
    }

    private static void endsOfTexts() {
        t.test("or the length of the text if it ends too early (the empty text does)", () -> {
            CountedTables x = new CountedTables();
            t.due("empty", x.writeAll(), -100);
            t.due("behind a page", Stores.writeAll(x, "0"), -101);
            t.due("behind =", Stores.writeAll(x, "0="), -102);
            t.due("behind a comma", Stores.writeAll(x, "0=1,"), -104);
            t.due("behind the second page", Stores.writeAll(x, "0=1,2"), -105);
            t.due("behind the second =", Stores.writeAll(x, "0-,2="), -105);
            t.due("not behind a digit", Stores.writeAll(x, "0=1"), 1);
            t.due("not behind two", Stores.writeAll(x, "0=10"), 1);
            t.due("not behind three", Stores.writeAll(x, "0=100"), 1);
            t.due("not behind 0", Stores.writeAll(x, "0=0"), 1);
            t.due("not behind -", Stores.writeAll(x, "0-"), 1);
        });
    }

    private static void history() {
        t.test("A history of at most 4 states is kept; when one more is recorded, the oldest one is dropped", () -> {
            for (int acts = 0; acts <= 12; acts++) {
                CountedTables x = new CountedTables();
                for (int i = 1; i <= acts; i++) {
                    x.write(0, i);
                    t.due("states", x.count(14), Math.min(i, 4));
                }
                for (int i = acts - 1; i >= Math.max(0, acts - 4); i--) {
                    t.due("undo", x.undo(), i - Math.max(0, acts - 4));
                    t.due("page", x.readDesk(0), i == 0 ? NONE : i);
                }
                t.due("one too many", x.undo(), NONE);
                t.due("states", x.count(14), 0);
                t.due("page", x.readDesk(0), acts <= 4 ? NONE : acts - 4);
            }
        });
        t.test("undo() removes and restores the latest one", () -> {
            for (int before = 1; before <= 8; before++) {
                CountedTables x = new CountedTables();
                for (int i = 1; i <= before; i++) {
                    x.write(0, i);
                }
                x.undo();
                x.write(0, 100);
                x.write(0, 101);
                t.due("states", x.count(14), Math.min(4, before + 1));
                x.undo();
                t.due("the latest", x.readDesk(0), 100);
                x.undo();
                t.due("what was before the undone one", x.readDesk(0), before == 1 ? NONE : before - 1);
                t.due("left", x.count(14), Math.min(4, before + 1) - 2);
            }
        });
    }

    private static void states() {
        t.test("There is one snapshot, empty at first", () -> {
            CountedTables x = new CountedTables();
            t.due("empty", x.restore(), NONE);
            t.due("no state is recorded", x.count(14), 0);
            x.write(0, 1);
            t.due("acts fill none", x.restore(), NONE);
            x.keep();
            x.write(0, 2);
            x.keep();
            x.write(0, 3);
            x.restore();
            t.due("one: the later", x.readDesk(0), 2);
            x.write(0, 4);
            x.restore();
            t.due("it stays", x.readDesk(0), 2);
        });
        t.test("A state is everything but the text, the history and the snapshot", () -> {
            CountedTables x = new CountedTables();
            x.write(0, 1);
            x.keep();
            x.write(0, 2);
            x.type('7');
            x.undo();
            t.due("undo leaves the text", x.count(15), 1);
            x.undo();
            t.due("undo leaves the snapshot", x.restore(), 1);
            t.due("as it was kept", x.readDesk(0), 1);
            t.due("restore is recorded, and brings no history back", x.count(14), 1);
            x.type('-');
            x.restore();
            t.due("restore leaves the text", x.writeAll(), 1);
            x.clearText();
            x.undo();
            t.due("undo leaves the text empty", x.count(15), 0);
        });
        t.test("readers and what they keep are of the state", () -> {
            CountedTables x = Stores.inSwap(4);
            x.open();
            x.open();
            x.keep();
            Stores.swap(x, 1, 11);
            x.close(0);
            x.open();
            t.due("another generation", x.reader(0), 4);
            t.due("another content", x.readBy(0, 1), 11);
            x.undo();
            t.due("none", x.reader(0), UNKNOWN);
            x.undo();
            t.due("its own generation", x.reader(0), 3);
            t.due("its own content", x.readBy(0, 1), 10);
            t.due("readers of its cell", x.cell(2, 6), 2);
            x.close(0);
            x.open();
            x.restore();
            t.due("restored generation", x.reader(0), 3);
            t.due("restored content", x.readBy(0, 1), 10);
        });
        t.test("crashes, swaps and wear are of the state", () -> {
            CountedTables x = Stores.inSwap(3);
            x.keep();
            x.step();
            x.crash(true);
            t.due("swaps", x.count(13), 2);
            t.due("crashes", x.count(9), 1);
            x.undo();
            t.due("undone crash", x.count(9), 0);
            x.undo();
            t.due("undone swap", x.count(13), 1);
            t.due("wear", x.count(11), 4);
            x.undo();
            x.undo();
            t.due("undone wear", x.count(11), 3);
            t.due("undone content", x.cell(3, 0), 0);
            x.restore();
            t.due("restored wear", x.count(11), 4);
            t.due("restored content", x.cell(3, 0), 57);
            t.due("restored table", x.table(0, 0), 3);
            t.due("restored steps", x.count(4), 1);
        });
    }
}
