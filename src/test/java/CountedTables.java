/** A SwappedTables whose calls are counted: the document promises nothing behind the 512th. */
final class CountedTables {
    private static final int MOST_CALLS = 512;

    private final SwappedTables tables = new SwappedTables();
    private int calls = 0;

    private SwappedTables counted() {
        calls++;
        if (calls > MOST_CALLS) {
            throw new AssertionError("this test makes more than 512 calls of one object");
        }
        return tables;
    }

    int calls() {
        return calls;
    }

    int write(int page, int content) {
        return counted().write(page, content);
    }

    int drop(int page) {
        return counted().drop(page);
    }

    int writeAll() {
        return counted().writeAll();
    }

    int clear() {
        return counted().clear();
    }

    int begin() {
        return counted().begin();
    }

    int step() {
        return counted().step();
    }

    int finish() {
        return counted().finish();
    }

    int giveUp() {
        return counted().giveUp();
    }

    int crash(boolean torn) {
        return counted().crash(torn);
    }

    int open() {
        return counted().open();
    }

    int close(int reader) {
        return counted().close(reader);
    }

    int type(char character) {
        return counted().type(character);
    }

    int clearText() {
        return counted().clearText();
    }

    int undo() {
        return counted().undo();
    }

    int keep() {
        return counted().keep();
    }

    int restore() {
        return counted().restore();
    }

    int read(int page) {
        return counted().read(page);
    }

    int readDesk(int page) {
        return counted().readDesk(page);
    }

    int readBy(int reader, int page) {
        return counted().readBy(reader, page);
    }

    int cell(int cell, int what) {
        return counted().cell(cell, what);
    }

    int table(int table, int what) {
        return counted().table(table, what);
    }

    int owed(int place, int what) {
        return counted().owed(place, what);
    }

    int reader(int reader) {
        return counted().reader(reader);
    }

    double unevenness() {
        return counted().unevenness();
    }

    int unevennessBits() {
        return counted().unevennessBits();
    }

    int count(int what) {
        return counted().count(what);
    }
}
