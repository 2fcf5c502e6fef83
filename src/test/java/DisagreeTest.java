/** Promises 23 to 26: marks that disagree, how many stand together, what a gone mark was, which is missed. */
public final class DisagreeTest {
    private static final int BAD = -1, NONE = -4;
    private static final Check CHECK = new Check("DisagreeTest");

    public static void main(String[] args) {
        clash();
        clashOfFewest();
        stand();
        was();
        wasBesidesMarks();
        missed();
        CHECK.end();
    }

    private static void due(String call, long got, long want) {
        CHECK.due(call, got, want);
    }

    private static void clash() {
        CarvedWeeks x = Check.laid("f2;i0,2;p9,0;s6,1,0;");
        due("no marks", x.clash(), NONE);
        x.carve(0, 0, 0, false);
        due("one that can be", x.clash(), NONE);
        x.carve(0, 0, 0, false);
        due("the same again", x.clash(), NONE);
        x.carve(0, 0, 1, true);
        due("by a law", x.clash(), 5);
        x.chisel(0, 0);
        due("of those that are left", x.clash(), 3);
    }

    private static void clashOfFewest() {
        CarvedWeeks x = Check.laid("f2;i0,1;p9,0;s6,1,0;");
        x.carve(0, 0, 1, false);
        x.carve(0, 0, 1, true);
        due("two that are unlike", x.clash(), 3);
        x.carve(0, 0, 0, false);
        due("one that can never be", x.clash(), 4);
        CarvedWeeks y = Check.laid("f2;p9,0;s6,1,0;");
        y.carve(0, 0, 0, false);
        y.carve(0, 0, 1, false);
        y.carve(0, 0, 1, true);
        y.carve(0, 0, 0, true);
        due("the lowest, as bits", y.clash(), 6);
    }

    private static void stand() {
        CarvedWeeks x = Check.laid("f2;p9,0;s6,1,0;");
        due("none at most", x.stand(0), 0);
        due("the empty set", x.stand(1), 1);
        for (int m = 0; m < 4; m++) {
            x.carve(0, 0, m / 2, m % 2 == 1);
        }
        due("two together", x.stand(0), 2);
        due("four such sets", x.stand(1), 4);
        x.carve(0, 0, 0, true);
        due("three together", x.stand(0), 3);
        due("two such sets", x.stand(1), 2);
        CarvedWeeks never = Check.laid("f1;i0,1;p9,0;s6,1,0;");
        never.carve(0, 0, 0, false);
        due("one that can never be", never.stand(0), 0);
        due("so it is the empty set", never.stand(1), 1);
        CarvedWeeks always = Check.laid("f1;i1,0;d0;p9,0;s6,1,0;");
        always.carve(0, 0, 0, false);
        due("where the set of no facts is no world", always.stand(0), 0);
        due("nor counts", always.stand(1), 1);
        CarvedWeeks some = Check.laid("f3;p9,0;s6,1,0;");
        some.carve(0, 0, 0, true);
        due("in many worlds, but one set", some.stand(1), 1);
        due("stand(2)", x.stand(2), BAD);
        due("stand(-1)", x.stand(-1), BAD);
    }

    private static void was() {
        CarvedWeeks x = Check.laid("f2;i0,2;p9,0;s6,1,0;");
        due("fact 0 so", x.was(0), 1);
        due("fact 0 not so", x.was(1), 10);
        due("fact 1 so", x.was(2), 5);
        due("fact 1 not so", x.was(3), 8);
        due("was(4)", x.was(4), BAD);
        due("was(-1)", x.was(-1), BAD);
        due("of eight facts", Check.laid("f8;p9,0;s6,1,0;").was(15), 1 << 15);
    }

    private static void wasBesidesMarks() {
        CarvedWeeks x = Check.laid("f2;i0,2;p9,0;s6,1,0;");
        x.carve(0, 0, 1, true);
        due("KNOWN already: by all that fit", x.was(3), 10);
        due("what cannot be", x.was(0), 0);
        x.carve(0, 0, 1, false);
        due("marks that DISAGREE tell nothing", x.was(3), 0);
    }

    private static void missed() {
        CarvedWeeks x = Check.laid("f2;i0,2;p9,0;s6,1,0;");
        due("no marks", x.missed(), NONE);
        x.carve(0, 0, 0, true);
        due("the only one", x.missed(), 0);
        x.carve(0, 0, 1, true);
        due("the one that tells both", x.missed(), 1);
        x.carve(0, 0, 1, true);
        due("of alike ones the lowest", x.missed(), 0);
        CarvedWeeks y = Check.laid("f2;p9,0;s6,1,0;");
        y.carve(0, 0, 0, false);
        y.carve(0, 0, 0, true);
        y.carve(0, 0, 1, true);
        due("without it nothing is RIGHT, for the rest DISAGREE", y.missed(), 2);
    }
}
