/** Promises 19 and 20: the fewest marks by which told facts are known, and by which stones soonest. */
public final class CutTest {
    private static final int BAD = -1, NONE = -4;
    private static final Check CHECK = new Check("CutTest");

    public static void main(String[] args) {
        least();
        leastLetsMarksBe();
        soonest();
        soonestByRoomAlone();
        CHECK.end();
    }

    private static void due(String call, long got, long want) {
        CHECK.due(call, got, want);
    }

    private static void least() {
        CarvedWeeks x = Check.laid("f2;i0,2;p9,0;s3,1,0;");
        due("none asked", x.least(0), 0);
        due("of several the lowest", x.least(1), 1);
        due("just fact 1", x.least(2), 2);
        due("both by fact 1", x.least(3), 2);
        x.deed(3);
        due("both by fact 0", x.least(3), 1);
        due("fact 1 by fact 0", x.least(2), 1);
        x.deed(2);
        due("both are needed", x.least(3), 3);
        due("least(4)", x.least(4), BAD);
        due("least(-1)", x.least(-1), BAD);
        due("by laws alone", Check.laid("f1;i0,1;p9,0;s3,1,0;").least(1), 0);
        due("by laws alone, so", Check.laid("f1;i1,0;d0;p9,0;s3,1,0;").least(1), 0);
        due("a late one for all", Check.laid("f4;i0,2;i2,4;i4,6;p9,0;s3,1,0;").least(15), 8);
        due("all of eight", Check.laid("f8;p9,0;s3,1,0;").least(255), 255);
        due("fewest ahead of lowest", Check.laid("f3;i0,4;i2,4;p9,0;s3,1,0;").least(3), 4);
    }

    private static void leastLetsMarksBe() {
        CarvedWeeks x = Check.laid("f2;p9,0;s3,1,0;");
        x.carve(0, 0, 0, true);
        x.carve(0, 0, 1, false);
        due("marks count for nothing", x.least(3), 3);
    }

    private static void soonest() {
        CarvedWeeks x = Check.laid("f3;p9,0;s1,5,0;s2,9,2;s1,3,3;");
        due("the cheapest three", x.soonest(7), 5);
        due("two on SKIN", x.soonest(5), 2);
        due("none", x.soonest(0), 0);
        x.carve(0, 1, 0, true);
        due("one room of SKIN less", x.soonest(7), 9);
        x.carve(0, 2, 0, true);
        due("not so much room", x.soonest(7), NONE);
        due("two", x.soonest(3), 6);
        due("soonest(8)", x.soonest(8), BAD);
        due("soonest(-1)", x.soonest(-1), BAD);
        due("hours of nobody", Check.laid("f1;p0,0;s1,9,1;").soonest(1), 9);
    }

    private static void soonestByRoomAlone() {
        CarvedWeeks x = Check.laid("f1;p40,0;s6,1,0;s6,1,0;s6,2,0;");
        for (int m = 0; m < 12; m++) {
            x.carve(0, m / 6, 0, true);
        }
        due("room is there beside twelve marks", x.soonest(1), 2);
    }
}
