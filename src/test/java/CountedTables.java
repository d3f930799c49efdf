/** A SwappedTables whose calls are counted: the document promises nothing behind the 512th. */
final class CountedTables implements Tables {
    private static final int MOST_CALLS = 512;

    private final SwappedTables tables = new SwappedTables();
    private int calls = 0;

    private SwappedTables counted() {
        calls++;
        if (calls > MOST_CALLS) {
            throw new AssertionError("this test makes more than 512 calls of one object");
        }
        return tables;
    }

    int calls() {
        return calls;
    }

    @Override
    public int write(int page, int content) {
        return counted().write(page, content);
    }

    @Override
    public int drop(int page) {
        return counted().drop(page);
    }

    @Override
    public int writeAll() {
        return counted().writeAll();
    }

    @Override
    public int clear() {
        return counted().clear();
    }

    @Override
    public int begin() {
        return counted().begin();
    }

    @Override
    public int step() {
        return counted().step();
    }

    @Override
    public int finish() {
        return counted().finish();
    }

    @Override
    public int giveUp() {
        return counted().giveUp();
    }

    @Override
    public int crash(boolean torn) {
        return counted().crash(torn);
    }

    @Override
    public int open() {
        return counted().open();
    }

    @Override
    public int close(int reader) {
        return counted().close(reader);
    }

    @Override
    public int type(char character) {
        return counted().type(character);
    }

    @Override
    public int clearText() {
        return counted().clearText();
    }

    @Override
    public int undo() {
        return counted().undo();
    }

    @Override
    public int keep() {
        return counted().keep();
    }

    @Override
    public int restore() {
        return counted().restore();
    }

    @Override
    public int read(int page) {
        return counted().read(page);
    }

    @Override
    public int readDesk(int page) {
        return counted().readDesk(page);
    }

    @Override
    public int readBy(int reader, int page) {
        return counted().readBy(reader, page);
    }

    @Override
    public int cell(int cell, int what) {
        return counted().cell(cell, what);
    }

    @Override
    public int table(int table, int what) {
        return counted().table(table, what);
    }

    @Override
    public int owed(int place, int what) {
        return counted().owed(place, what);
    }

    @Override
    public int reader(int reader) {
        return counted().reader(reader);
    }

    @Override
    public double unevenness() {
        return counted().unevenness();
    }

    @Override
    public int unevennessBits() {
        return counted().unevennessBits();
    }

    @Override
    public int count(int what) {
        return counted().count(what);
    }
}
