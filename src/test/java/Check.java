/** Compares answers with those that are due, prints the others, and ends the test with exit code 1 if there was one. */
final class Check {
    private final String test;
    private String sentence = "";
    private int passed;
    private int failed;

    Check(String test) {
        this.test = test;
    }

    /** The document's words by which the next answers are due: they are told with each that is not. */
    void sentence(String words) {
        sentence = " (\"" + words + "\")";
    }

    void due(String call, long got, long want) {
        if (got == want) {
            passed++;
        } else {
            failed++;
            System.out.println(test + ": " + call + " answered " + got + ", due is " + want + sentence);
        }
    }

    void holds(String what, boolean so) {
        due(what, so ? 1 : 0, 1);
    }

    /** For answers of many calls at once, as Sight tells them. */
    void alike(String what, String got, String want) {
        if (!got.equals(want)) {
            System.out.println("got " + got + "\ndue " + want);
        }
        holds(what, got.equals(want));
    }

    void end() {
        System.out.println(test + ": " + passed + " passed, " + failed + " failed");
        if (failed != 0 || passed == 0) {
            System.exit(1);
        }
    }

    static void type(CarvedWeeks town, String text) {
        for (int i = 0; i < text.length(); i++) {
            town.write(text.charAt(i));
        }
    }

    /** A new object with the text laid. */
    static CarvedWeeks laid(String text) {
        CarvedWeeks town = new CarvedWeeks();
        type(town, text);
        if (town.lay() < 1) {
            throw new IllegalStateException("the test's own text is not laid: " + text);
        }
        return town;
    }
}
