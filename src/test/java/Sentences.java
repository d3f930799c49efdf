/** Runs tests that are named by the sentence of the document to which they hold the program. */
final class Sentences {
    private final String program;
    private String sentence = "";
    private boolean holds = true;
    private int tests = 0;
    private int broken = 0;
    private int checks = 0;

    Sentences(String program) {
        this.program = program;
    }

    /** A test that throws has failed, and the others go on. */
    void test(String name, Runnable body) {
        sentence = name;
        holds = true;
        tests++;
        try {
            body.run();
        } catch (RuntimeException | AssertionError thrown) {
            tell("threw " + thrown);
        }
        broken += holds ? 0 : 1;
    }

    void due(String call, long got, long want) {
        checks++;
        if (got != want) {
            tell(call + " answered " + got + ", due is " + want);
        }
    }

    void dueDouble(String call, double got, double want) {
        checks++;
        if (Double.doubleToLongBits(got) != Double.doubleToLongBits(want)) {
            tell(call + " answered " + got + ", due is " + want);
        }
    }

    private void tell(String what) {
        holds = false;
        System.out.println("\"" + sentence + "\": " + what);
    }

    void end() {
        System.out.println(program + ": " + tests + " tests, " + checks + " checks, " + broken + " tests failed");
        if (broken != 0) {
            System.exit(1);
        }
    }
}
