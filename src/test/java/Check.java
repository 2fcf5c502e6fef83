/** Compares answers with those that are due, prints the others, and ends the test with exit code 1 if there was one. */
final class Check {
    private final String test;
    private int passed;
    private int failed;

    Check(String test) {
        this.test = test;
    }

    void due(String call, long got, long want) {
        if (got == want) {
            passed++;
        } else {
            failed++;
            System.out.println(test + ": " + call + " answered " + got + ", due is " + want);
        }
    }

    void holds(String what, boolean so) {
        due(what, so ? 1 : 0, 1);
    }

    void end() {
        System.out.println(test + ": " + passed + " passed, " + failed + " failed");
        if (failed != 0) {
            System.exit(1);
        }
    }

    static void type(CarvedWeeks town, String text) {
        for (int i = 0; i < text.length(); i++) {
            town.write(text.charAt(i));
        }
    }

    /** A new object with the text laid. */
    static CarvedWeeks laid(String text) {
        CarvedWeeks town = new CarvedWeeks();
        type(town, text);
        if (town.lay() < 1) {
            throw new IllegalStateException("the test's own text is not laid: " + text);
        }
        return town;
    }
}
