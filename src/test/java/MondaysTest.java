/** Promises 16 to 18: what is known by one hand or by two, and what one should believe. */
public final class MondaysTest {
    private static final int BAD = -1, NONE = -4;
    private static final Check CHECK = new Check("MondaysTest");

    public static void main(String[] args) {
        known();
        knownByLaws();
        knownRefused();
        hands();
        belief();
        beliefOfNone();
        CHECK.end();
    }

    private static void due(String call, long got, long want) {
        CHECK.due(call, got, want);
    }

    private static void dueKnown(String when, CarvedWeeks x, int h, int... want) {
        for (int what = 0; what < want.length; what++) {
            due(when + ": known(" + h + ", " + what + ")", x.known(h, what), want[what]);
        }
    }

    private static void known() {
        CarvedWeeks x = Check.laid("f2;i0,2;p9,0;p9,5;s3,1,0;s3,2,3;");
        dueKnown("no marks", x, 1, 0, 0, 0, 0, 0, 0);
        x.carve(0, 0, 0, false);
        dueKnown("a lie", x, 1, 3, 0, 0, 2, 1, 0);
        dueKnown("a lie by one hand", x, 2, 0, 0, 0, 0, 0, 0);
        x.carve(1, 1, 0, false);
        dueKnown("a lie by more", x, 2, 3, 0, 0, 2, 1, 0);
        x.carve(0, 0, 1, true);
        dueKnown("they disagree", x, 1, 0, 0, 0, 0, 9, 1);
        dueKnown("of two hands not", x, 2, 3, 0, 0, 2, 1, 0);
        x.deed(3);
        dueKnown("the lie has come true", x, 2, 3, 0, 2, 0, 1, 0);
        x.deed(2);
        dueKnown("half of it", x, 2, 3, 0, 1, 1, 1, 0);
    }

    private static void knownByLaws() {
        CarvedWeeks x = Check.laid("f2;i0,1;p9,0;s3,1,0;");
        dueKnown("a fact that no world has", x, 1, 0, 1, 1, 0, 0, 0);
        x.carve(0, 0, 1, true);
        dueKnown("and a mark", x, 1, 0, 3, 2, 0, 8, 0);
        dueKnown("two hands read none", x, 2, 0, 1, 1, 0, 0, 0);
    }

    private static void knownRefused() {
        CarvedWeeks x = new CarvedWeeks();
        due("known(0, 0)", x.known(0, 0), BAD);
        due("known(3, 0)", x.known(3, 0), BAD);
        due("known(1, -1)", x.known(1, -1), BAD);
        due("known(2, 6)", x.known(2, 6), BAD);
    }

    private static void hands() {
        CarvedWeeks x = Check.laid("f2;p9,0;p9,5;s3,1,0;s6,1,3;");
        due("no mark", x.hands(1), 0);
        x.carve(0, 0, 0, true);
        due("one", x.hands(1), 1);
        x.carve(0, 0, 0, true);
        due("the same again", x.hands(1), 1);
        x.carve(1, 0, 0, true);
        due("another", x.hands(1), 2);
        x.carve(1, 1, 0, true);
        due("at an ARCH", x.hands(1), 3);
        x.carve(0, 1, 0, true);
        due("both at an ARCH", x.hands(1), 3);
        due("the other saying", x.hands(0), 0);
        x.carve(0, 1, 1, false);
        due("just one at an ARCH", x.hands(2), 2);
        due("READ by the rule of two", x.known(2, 4), 6);
        due("hands(4)", x.hands(4), BAD);
        due("hands(-1)", x.hands(-1), BAD);
    }

    private static void dueBelief(String when, CarvedWeeks x, int f, long above, long below) {
        due(when + ": belief(" + f + ", 0)", x.belief(f, 0), above);
        due(when + ": belief(" + f + ", 1)", x.belief(f, 1), below);
    }

    private static void belief() {
        CarvedWeeks x = Check.laid("f2;i0,2;p9,0;p9,3;s3,1,0;s3,2,3;");
        dueBelief("no marks", x, 0, 1, 3);
        dueBelief("no marks", x, 1, 2, 3);
        x.carve(1, 0, 0, false);
        dueBelief("a mark", x, 0, 7, 13);
        dueBelief("a mark", x, 1, 10, 13);
        x.carve(1, 1, 0, false);
        dueBelief("each mark counts", x, 0, 49, 67);
        x.carve(0, 0, 1, true);
        dueBelief("of one who never lies", x, 0, 0, 1);
        dueBelief("of one who never lies", x, 1, 0, 1);
        due("belief(2, 0)", x.belief(2, 0), BAD);
        due("belief(-1, 0)", x.belief(-1, 0), BAD);
        due("belief(0, 2)", x.belief(0, 2), BAD);
        due("belief(0, -1)", x.belief(0, -1), BAD);
        dueBelief("lowest terms", Check.laid("f8;p9,0;s3,1,0;"), 7, 1, 2);
        dueBelief("sure", Check.laid("f1;i1,0;d0;p9,0;s3,1,0;"), 0, 1, 1);
        CarvedWeeks y = Check.laid("f1;p40,1;s6,1,0;s6,1,0;");
        for (int m = 0; m < 12; m++) {
            y.carve(0, m / 6, 0, false);
        }
        dueBelief("twelve marks", y, 0, 282429536481L, 282429536482L);
    }

    private static void beliefOfNone() {
        CarvedWeeks x = Check.laid("f2;p9,0;s3,1,0;");
        x.carve(0, 0, 0, true);
        x.carve(0, 0, 0, false);
        due("all weigh nothing", x.belief(0, 0), NONE);
        due("below too", x.belief(1, 1), NONE);
        due("BAD ahead of NONE", x.belief(2, 0), BAD);
        due("BAD ahead of NONE: part", x.belief(0, 2), BAD);
    }
}
