/** Counts the answers that are as due and those that are not, sentence by sentence of the document. */
final class Sheet {
    /** Of a test that goes wrong as a whole the first lines are enough. */
    private static final int MOST_LINES = 20;

    private final String name;
    private String words = "";
    private int sentences = 0;
    private int passed = 0;
    private int failed = 0;

    Sheet(String name) {
        this.name = name;
    }

    /** Runs the test of one sentence. A test that asks nothing, or in which something is thrown, has failed. */
    void sentence(String ofDocument, Runnable test) {
        words = ofDocument;
        sentences++;
        int before = passed + failed;
        try {
            test.run();
        } catch (RuntimeException | Error e) {
            fail("threw " + e);
        }
        if (passed + failed == before) {
            fail("asked nothing");
        }
    }

    void due(String call, long got, long want) {
        if (got == want) {
            passed++;
        } else {
            fail(call + " answered " + got + ", due is " + want);
        }
    }

    void due(String call, boolean got, boolean want) {
        if (got == want) {
            passed++;
        } else {
            fail(call + " answered " + got + ", due is " + want);
        }
    }

    void due(String call, String got, String want) {
        if (got.equals(want)) {
            passed++;
        } else {
            fail(call + " answered " + got + ", due is " + want);
        }
    }

    private void fail(String what) {
        failed++;
        if (failed <= MOST_LINES) {
            System.out.println("\"" + words + "\": " + what);
        }
    }

    void end() {
        System.out.println(name + ": " + sentences + " sentences, " + passed + " answers as due, " + failed + " not");
        if (failed != 0) {
            System.exit(1);
        }
    }
}
