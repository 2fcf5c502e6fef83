/** Promises 11 to 15: deeds, marks cut and chiselled away, bells, and what is undone. */
public final class WeeksTest {
    private static final int BAD = -1, NO = -2, FULL = -3;
    private static final Check CHECK = new Check("WeeksTest");

    public static void main(String[] args) {
        deed();
        carve();
        carveRefused();
        chisel();
        bellWears();
        bellAnew();
        undoEach();
        undoLastEight();
        CHECK.end();
    }

    private static void due(String call, long got, long want) {
        CHECK.due(call, got, want);
    }

    private static void deed() {
        CarvedWeeks x = Check.laid("f3;i0,2;d0;d1;p9,0;s3,1,0;");
        due("deed(6)", x.deed(6), 2);
        due("truth", x.count(6), 6);
        due("deed to the same", x.deed(6), 0);
        due("both can be undone", x.count(9), 2);
        due("deed(1) is no world", x.deed(1), NO);
        due("deed(8)", x.deed(8), BAD);
        due("deed(-1)", x.deed(-1), BAD);
        due("deed(0)", x.deed(0), 2);
        due("deed(7)", x.deed(7), 3);
        due("refused ones are no deeds", x.count(9), 4);
    }

    private static void carve() {
        CarvedWeeks x = Check.laid("f2;d1;p9,0;p1,0;s3,4,0;s3,9,2;");
        due("true of what is not so", x.carve(0, 0, 0, true), 0);
        due("lie of what is so", x.carve(0, 0, 1, false), 1);
        due("hours left", x.person(0, 2), 1);
        due("SKIN needs one hour", x.carve(0, 1, 1, true), 2);
        due("lie of what is not so", x.carve(1, 1, 0, false), 3);
        int[] sayings = {1, 3, 2, 0};
        for (int m = 0; m < sayings.length; m++) {
            due("saying of mark " + m, x.mark(m, 0), sayings[m]);
        }
        x.deed(1);
        x.bell();
        due("by the truth of now", x.carve(0, 0, 0, true), 4);
        due("its saying", x.mark(4, 0), 0);
    }

    private static void carveRefused() {
        CarvedWeeks x = Check.laid("f2;p5,0;s1,3,0;s6,1,0;s6,1,0;s2,1,0;p40,0;");
        due("person 2", x.carve(2, 0, 0, true), BAD);
        due("person -1", x.carve(-1, 0, 0, true), BAD);
        due("stone 4", x.carve(0, 4, 0, true), BAD);
        due("stone -1", x.carve(0, -1, 0, true), BAD);
        due("fact 2", x.carve(0, 0, 2, true), BAD);
        due("fact -1", x.carve(0, 0, -1, true), BAD);
        due("three of five hours", x.carve(0, 0, 0, true), 0);
        due("no room", x.carve(1, 0, 0, true), NO);
        due("no hours and no room", x.carve(0, 0, 0, true), NO);
        x.chisel(1, 0);
        due("no hours", x.carve(0, 0, 0, true), NO);
        for (int m = 0; m < 12; m++) {
            due("mark " + m, x.carve(1, 1 + m / 6, 0, true), m);
        }
        due("a thirteenth mark", x.carve(1, 3, 0, true), FULL);
        due("BAD ahead of FULL", x.carve(1, 3, 2, true), BAD);
        due("NO ahead of FULL: room", x.carve(1, 1, 0, true), NO);
        due("NO ahead of FULL: hours", x.carve(0, 0, 0, true), NO);
        due("hours as they were", x.person(1, 2), 40 - 3 - 12);
        due("UNDONE", x.undo(), 7);
        due("behind it 11", x.count(7), 11);
    }

    private static void chisel() {
        CarvedWeeks x = Check.laid("f3;p9,0;p2,0;s3,4,0;s3,9,2;s3,3,3;");
        x.carve(0, 0, 0, true);
        x.carve(0, 1, 1, true);
        x.carve(0, 2, 2, true);
        due("hours left", x.person(0, 2), 1);
        due("no mark 3", x.chisel(0, 3), BAD);
        due("no mark -1", x.chisel(0, -1), BAD);
        due("no person 2", x.chisel(2, 0), BAD);
        due("no person -1", x.chisel(-1, 0), BAD);
        due("hours", x.chisel(1, 0), NO);
        due("SKIN needs one hour", x.chisel(1, 1), 2);
        due("that is spent", x.person(1, 2), 1);
        due("those behind come one down", x.mark(1, 0), 5);
        due("and their stones", x.mark(1, 1), 2);
        due("room is free again", x.stone(1, 3), 3);
        due("ARCH needs its hardness", x.chisel(1, 1), NO);
        x.bell();
        due("ARCH with hours anew", x.chisel(0, 1), 1);
        due("hours are spent", x.person(0, 2), 6);
        due("BAD ahead of NO", x.chisel(1, 1), BAD);
    }

    private static void bellWears() {
        CarvedWeeks x = Check.laid("f1;p40,0;s1,1,0;s1,1,3;s1,9,2;s1,3,1;s2,1,1;");
        for (int s = 0; s < 5; s++) {
            x.carve(0, s, 0, true);
        }
        due("bell 1: LIMESTONE of 1 wears off", x.bell(), 4);
        due("it was the last one", x.mark(3, 1), 3);
        x.carve(0, 4, 0, false);
        due("bell 2: SKIN, and the late mark", x.bell(), 3);
        due("LIMESTONE of 3 has come down", x.mark(2, 1), 3);
        due("it has heard", x.mark(2, 3), 2);
        due("bell 3: LIMESTONE of 3", x.bell(), 2);
        for (int k = 0; k < 20; k++) {
            due("GRANITE and ARCH stay", x.bell(), 2);
        }
        due("GRANITE has heard", x.mark(0, 3), 23);
        due("room is free again", x.stone(3, 3), 1);
        due("weeks gone by", x.count(8), 23);
    }

    private static void bellAnew() {
        CarvedWeeks x = Check.laid("f1;p4,0;s6,2,0;");
        x.carve(0, 0, 0, true);
        x.carve(0, 0, 0, true);
        due("no hours", x.carve(0, 0, 0, true), NO);
        x.bell();
        due("hours anew", x.person(0, 2), 4);
        due("can cut again", x.carve(0, 0, 0, true), 2);
        CarvedWeeks y = new CarvedWeeks();
        for (int k = 0; k < 999; k++) {
            y.bell();
        }
        due("999 bells", y.count(8), 999);
        due("a thousandth", y.bell(), NO);
        due("weeks as they were", y.count(8), 999);
    }

    private static void undoEach() {
        CarvedWeeks x = Check.laid("f2;p4,0;s6,2,0;s2,2,1;");
        due("nothing", x.undo(), NO);
        x.deed(3);
        x.carve(0, 1, 1, true);
        x.bell();
        x.carve(0, 0, 0, true);
        x.chisel(0, 0);
        due("the chiselling is undone", x.undo(), 4);
        due("both marks", x.count(7), 2);
        due("hours", x.person(0, 2), 2);
        due("the first is the first again", x.mark(0, 1), 1);
        due("the cutting", x.undo(), 3);
        due("one mark", x.count(7), 1);
        due("the bell", x.undo(), 2);
        due("bells heard", x.mark(0, 3), 0);
        due("weeks", x.count(8), 0);
        due("hours of then", x.person(0, 2), 2);
        due("the first cutting", x.undo(), 1);
        due("no mark", x.count(7), 0);
        due("the deed", x.undo(), 0);
        due("truth", x.count(6), 0);
        due("no more", x.undo(), NO);
    }

    private static void undoLastEight() {
        for (int deeds = 9; deeds <= 30; deeds++) {
            CarvedWeeks x = Check.laid("f5;p4,0;s6,2,0;");
            for (int set = 1; set <= deeds; set++) {
                x.deed(set);
                due("can be undone", x.count(9), Math.min(set, 8));
            }
            for (int left = 7; left >= 0; left--) {
                due("undo", x.undo(), left);
                due("truth", x.count(6), deeds - 8 + left);
            }
            due("no more than eight", x.undo(), NO);
            due("truth stays", x.count(6), deeds - 8);
            x.deed(0);
            due("undo of a later deed", x.undo(), 0);
            due("its truth", x.count(6), deeds - 8);
        }
    }
}
