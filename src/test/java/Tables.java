/** The calls of the document's face, so that the same test can be put to the program and to PlainModel. */
interface Tables {
    int write(int page, int content);

    int drop(int page);

    int writeAll();

    int clear();

    int begin();

    int step();

    int finish();

    int giveUp();

    int crash(boolean torn);

    int open();

    int close(int reader);

    int type(char character);

    int clearText();

    int undo();

    int keep();

    int restore();

    int read(int page);

    int readDesk(int page);

    int readBy(int reader, int page);

    int cell(int cell, int what);

    int table(int table, int what);

    int owed(int place, int what);

    int reader(int reader);

    double unevenness();

    int unevennessBits();

    int count(int what);
}
