/** Stores that have come to a certain state, and what is done with them again and again. */
final class Stores {
    private Stores() {
    }

    static int sealOf(int content) {
        return (content * 37 + 11) % 101;
    }

    static int tornSealOf(int content) {
        return (sealOf(content) + 1) % 101;
    }

    static void type(Tables x, String text) {
        for (int i = 0; i < text.length(); i++) {
            x.type(text.charAt(i));
        }
    }

    static int writeAll(Tables x, String text) {
        x.clearText();
        type(x, text);
        return x.writeAll();
    }

    static void swap(Tables x, int page, int content) {
        x.write(page, content);
        x.begin();
        x.finish();
    }

    /** Writes all pages with first, first + 1, .. and swaps: ten calls. */
    static void swapAllPages(Tables x, int first) {
        for (int page = 0; page < 8; page++) {
            x.write(page, first + page);
        }
        x.begin();
        x.finish();
    }

    static CountedTables withFreeCells(int free) {
        CountedTables x = new CountedTables();
        leaveFreeCells(x, free);
        return x;
    }

    /** The reader 0 keeps the cells 0 to 7, the reader 1 the cells 8 to 15, and the old generation has the rest. */
    static void leaveFreeCells(Tables x, int free) {
        swapAllPages(x, 0);
        x.open();
        swapAllPages(x, 100);
        x.open();
        for (int page = 0; page < 8 - free; page++) {
            x.write(page, 200 + page);
        }
        x.begin();
        x.finish();
    }

    static CountedTables inSwap(int done) {
        CountedTables x = new CountedTables();
        goIntoSwap(x, done);
        return x;
    }

    /**
     * The table 1 is the old one, its number is 2: page 0 has cell 0, page 2 has cell 1. The swap owes page 1 (10),
     * page 4 (57, the seal of which is 100), the table and the mark; page 0 is dropped by it. Some are done.
     */
    static void goIntoSwap(Tables x, int done) {
        x.write(0, 500);
        x.write(2, 502);
        x.begin();
        x.finish();
        x.write(4, 57);
        x.drop(0);
        x.write(1, 10);
        x.begin();
        for (int i = 0; i < done; i++) {
            x.step();
        }
    }

    /** Everything that is told of a state but the history: 304 calls. */
    static int[] everything(Tables x) {
        int[] told = new int[304];
        int many = 0;
        for (int what = 0; what <= 16; what++) {
            if (what != 14) {
                told[many++] = x.count(what);
            }
        }
        for (int cell = 0; cell < 24; cell++) {
            for (int what = 0; what < 8; what++) {
                told[many++] = x.cell(cell, what);
            }
        }
        for (int table = 0; table < 2; table++) {
            for (int what = 0; what < 18; what = what == 3 ? 10 : what + 1) {
                told[many++] = x.table(table, what);
            }
        }
        for (int page = 0; page < 8; page++) {
            told[many++] = x.read(page);
            told[many++] = x.readDesk(page);
        }
        for (int reader = 0; reader < 4; reader++) {
            told[many++] = x.reader(reader);
            for (int page = 0; page < 8; page++) {
                told[many++] = x.readBy(reader, page);
            }
        }
        for (int place = 0; place < 10; place++) {
            told[many++] = x.owed(place, 0);
            told[many++] = x.owed(place, 1);
        }
        return told;
    }
}
