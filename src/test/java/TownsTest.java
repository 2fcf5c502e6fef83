/** Promises 1 to 10: a new object, the text and its first fault, the town that is laid. */
public final class TownsTest {
    private static final int BAD = -1, NO = -2, FULL = -3, NONE = -4;
    private static final Check CHECK = new Check("TownsTest");

    public static void main(String[] args) {
        aNewObject();
        write();
        wipe();
        faultsOfFacts();
        faultsOfLaws();
        faultsOfPeopleStonesBids();
        faultsOfForm();
        faultsOfTooMany();
        lay();
        layRefused();
        laws();
        persons();
        stones();
        marks();
        worlds();
        CHECK.end();
    }

    private static void due(String call, long got, long want) {
        CHECK.due(call, got, want);
    }

    private static void aNewObject() {
        CarvedWeeks x = new CarvedWeeks();
        int[] want = {3, 2, 2, 2, 0, 5, 3, 0, 0, 0, 0, 0, BAD};
        for (int what = 0; what < want.length; what++) {
            due("new: count(" + what + ")", x.count(what), want[what]);
        }
        due("new: count(-1)", x.count(-1), BAD);
        due("new: law(0, 0)", x.law(0, 0), 0);
        due("new: law(0, 1)", x.law(0, 1), 2);
        due("new: law(1, 0)", x.law(1, 0), 4);
        due("new: law(1, 1)", x.law(1, 1), 1);
        due("new: person(0, 0)", x.person(0, 0), 20);
        due("new: person(0, 1)", x.person(0, 1), 1);
        due("new: person(1, 2)", x.person(1, 2), 9);
        due("new: stone(0, 0)", x.stone(0, 0), 3);
        due("new: stone(0, 1)", x.stone(0, 1), 4);
        due("new: stone(1, 2)", x.stone(1, 2), 1);
        due("new: fault()", x.fault(), NONE);
        due("new: undo()", x.undo(), NO);
        due("new: back()", x.back(), NO);
    }

    private static void write() {
        CarvedWeeks x = new CarvedWeeks();
        due("write(31)", x.write(31), BAD);
        due("write(127)", x.write(127), BAD);
        due("write(-5)", x.write(-5), BAD);
        due("write(32)", x.write(32), 1);
        due("write(126)", x.write(126), 2);
        for (int i = 3; i <= 200; i++) {
            due("write", x.write('f'), i);
        }
        due("write beyond 200", x.write('f'), FULL);
        due("BAD ahead of FULL", x.write(31), BAD);
        due("letters", x.count(11), 200);
    }

    private static void wipe() {
        CarvedWeeks x = new CarvedWeeks();
        due("wipe of nothing", x.wipe(), 0);
        Check.type(x, "f3;");
        due("wipe", x.wipe(), 3);
        due("letters behind wipe", x.count(11), 0);
        due("wipe leaves the town", x.count(2), 2);
        due("write behind wipe", x.write('f'), 1);
    }

    private static void fault(String text, int want) {
        CarvedWeeks x = new CarvedWeeks();
        Check.type(x, text);
        due("fault of " + text, x.fault(), want);
        due("fault of " + text + " again", x.fault(), want);
    }

    private static void faultsOfFacts() {
        fault("", NONE);
        fault("f3;", NONE);
        fault("f1;", NONE);
        fault("f8;", NONE);
        fault("f0;", 0);
        fault("f9;", 0);
        fault("f03;", NONE);
        fault("f003;", 0);
        fault("f3;f5;d4;", NONE);
        fault("f5;f3;d4;", 6);
        fault("d0;f3;", 3);
        fault("p1,1;f3;", 5);
        fault("s1,1,1;f3;", 7);
        fault("i0,0;f3;", 5);
        fault("d3;", NONE);
        fault("d4;", 0);
        fault("d0;d0;", NONE);
        fault("f8;d7;", NONE);
        fault("f8;d8;", 3);
    }

    private static void faultsOfLaws() {
        fault("i0,7;", NONE);
        fault("i7,0;", NONE);
        fault("i0,8;", 0);
        fault("i8,0;", 0);
        fault("f1;i1,1;", NONE);
        fault("f1;i0,2;", 3);
        fault("f8;i15,15;", NONE);
        fault("f8;i15,16;", 3);
    }

    private static void faultsOfPeopleStonesBids() {
        fault("p40,9;", NONE);
        fault("p0,0;", NONE);
        fault("p41,0;", 0);
        fault("p0,10;", 0);
        fault("s1,1,0;", NONE);
        fault("s6,9,3;", NONE);
        fault("s0,1,0;", 0);
        fault("s7,1,0;", 0);
        fault("s1,0,0;", 0);
        fault("s1,10,0;", 0);
        fault("s1,1,4;", 0);
        fault("b0,1,1;", 0);
        fault("b0,1,1;p1,1;", 0);
        fault("p1,1;b0,1,0;", NONE);
        fault("p1,1;b1,1,0;", 5);
        fault("p1,1;b0,0,0;", 5);
        fault("p1,1;b0,7,0;", 5);
        fault("p1,1;b0,6,99;", NONE);
        fault("p1,1;b0,6,100;", 5);
    }

    private static void faultsOfForm() {
        String[] whole = {"x1;", ";", " f3;", "F3;", "f;", "f3", "f", "f3,", "f3,1;", "d;", "i1;", "i1,1", "p,1;", "p1,;",
                "p1.1;", "p-1,1;", "p1,1,1;", "s1,1;", "s1,1,1,1;", "p1 ,1;", "p001,1;", "3;", "i0;0;", "p:,1;", "p1:,1;", "p/,1;",
            "p1,1:"};
        for (String text : whole) {
            fault(text, 0);
        }
        fault("f3; p1,1;", 3);
        fault("f3;;", 3);
        fault("p1,1;s1,1", 5);
        fault("p1,1;s1,1,1;s", 12);
        fault("p1,1;x;y;", 5);
    }

    private static void faultsOfTooMany() {
        fault("i0,0;".repeat(10), NONE);
        fault("i0,0;".repeat(11), 50);
        fault("p1,1;".repeat(5), NONE);
        fault("p1,1;".repeat(6), 25);
        fault("s1,1,1;".repeat(5), NONE);
        fault("s1,1,1;".repeat(6), 35);
        fault("p1,1;" + "b0,1,1;".repeat(6), NONE);
        fault("p1,1;" + "b0,1,1;".repeat(7), 47);
        fault("d0;".repeat(66), NONE);
        fault("d0;".repeat(66) + "d0", 198);
    }

    private static void lay() {
        CarvedWeeks x = new CarvedWeeks();
        x.bell();
        x.carve(0, 0, 0, true);
        x.keep();
        Check.type(x, "d2;p7,2;s2,3,2;b0,6,99;");
        due("lay", x.lay(), 16);
        int[] want = {4, 0, 1, 1, 1, 16, 4, 0, 0, 0, 0, 23};
        for (int what = 0; what < want.length; what++) {
            due("laid: count(" + what + ")", x.count(what), want[what]);
        }
        due("laid: person(0, 2)", x.person(0, 2), 7);
        due("laid: undo()", x.undo(), NO);
        due("laid: back()", x.back(), NO);
        due("the text stays", x.lay(), 16);
        Check.type(x, "i4,4;i2,1;");
        due("lay of more", x.lay(), 12);
        x.carve(0, 0, 0, true);
        due("hours are spent", x.person(0, 2), 6);
        due("lay again", x.lay(), 12);
        due("hours anew", x.person(0, 2), 7);
        due("room anew", x.stone(0, 3), 2);
        due("eight facts", Check.laid("f8;p0,0;s1,1,0;").count(5), 256);
    }

    private static void layRefused() {
        String[] texts = {"", "p1,1;", "s1,1,1;", "f2;i0,2;d0;p1,1;s1,1,1;", "p1,1;s1,1,1;x", "p1,1;s1,1,1;f2;",
                "f1;i0,1;i1,0;p1,1;s1,1,1;"};
        for (String text : texts) {
            CarvedWeeks x = new CarvedWeeks();
            x.carve(0, 0, 0, true);
            x.keep();
            Check.type(x, text);
            due("lay of " + text, x.lay(), NO);
            due("facts as they were", x.count(0), 3);
            due("laws as they were", x.count(1), 2);
            due("persons as they were", x.count(2), 2);
            due("marks as they were", x.count(7), 1);
            due("UNDONE as it was", x.count(9), 1);
            due("KEPT as it was", x.count(10), 1);
            due("the text as it was", x.count(11), text.length());
        }
    }

    private static void laws() {
        CarvedWeeks x = Check.laid("f8;i15,3;i0,14;p1,1;s1,1,1;");
        due("law(0, 0)", x.law(0, 0), 15);
        due("law(0, 1)", x.law(0, 1), 3);
        due("law(1, 0)", x.law(1, 0), 0);
        due("law(1, 1)", x.law(1, 1), 14);
        due("law(2, 0)", x.law(2, 0), BAD);
        due("law(-1, 0)", x.law(-1, 0), BAD);
        due("law(0, -1)", x.law(0, -1), BAD);
        due("law(0, 2)", x.law(0, 2), BAD);
    }

    private static void persons() {
        CarvedWeeks x = Check.laid("p12,3;p40,9;s2,5,0;");
        x.carve(0, 0, 0, true);
        due("person(0, 0)", x.person(0, 0), 12);
        due("person(0, 1)", x.person(0, 1), 3);
        due("person(0, 2)", x.person(0, 2), 7);
        due("person(1, 0)", x.person(1, 0), 40);
        due("person(1, 1)", x.person(1, 1), 9);
        due("person(1, 2)", x.person(1, 2), 40);
        due("person(2, 0)", x.person(2, 0), BAD);
        due("person(-1, 0)", x.person(-1, 0), BAD);
        due("person(0, 3)", x.person(0, 3), BAD);
        due("person(0, -1)", x.person(0, -1), BAD);
    }

    private static void stones() {
        CarvedWeeks x = Check.laid("p12,3;s2,5,0;s6,9,2;");
        x.carve(0, 1, 0, true);
        due("stone(0, 3)", x.stone(0, 3), 2);
        due("stone(1, 0)", x.stone(1, 0), 6);
        due("stone(1, 1) is as told, of SKIN too", x.stone(1, 1), 9);
        due("stone(1, 2)", x.stone(1, 2), 2);
        due("stone(1, 3)", x.stone(1, 3), 5);
        due("stone(2, 0)", x.stone(2, 0), BAD);
        due("stone(-1, 0)", x.stone(-1, 0), BAD);
        due("stone(0, 4)", x.stone(0, 4), BAD);
        due("stone(0, -1)", x.stone(0, -1), BAD);
    }

    private static void marks() {
        CarvedWeeks x = Check.laid("f2;d1;p9,3;p9,3;s2,5,0;s6,1,3;");
        due("mark(0, 0) of none", x.mark(0, 0), BAD);
        x.carve(1, 1, 1, true);
        x.bell();
        x.carve(0, 0, 0, false);
        due("mark(0, 0)", x.mark(0, 0), 2);
        due("mark(0, 1)", x.mark(0, 1), 1);
        due("mark(0, 2)", x.mark(0, 2), 1);
        due("mark(0, 3)", x.mark(0, 3), 1);
        due("mark(0, 4)", x.mark(0, 4), 1);
        due("mark(1, 0)", x.mark(1, 0), 0);
        due("mark(1, 1)", x.mark(1, 1), 0);
        due("mark(1, 2)", x.mark(1, 2), 0);
        due("mark(1, 3)", x.mark(1, 3), 0);
        due("mark(1, 4)", x.mark(1, 4), 0);
        x.deed(1);
        due("mark(0, 4) behind a deed", x.mark(0, 4), 0);
        due("mark(1, 4) behind a deed", x.mark(1, 4), 1);
        due("mark(2, 0)", x.mark(2, 0), BAD);
        due("mark(-1, 0)", x.mark(-1, 0), BAD);
        due("mark(0, 5)", x.mark(0, 5), BAD);
        due("mark(0, -1)", x.mark(0, -1), BAD);
    }

    private static void worlds() {
        CarvedWeeks x = Check.laid("f2;i0,2;p9,3;s2,5,0;");
        due("world(0)", x.world(0), 0);
        due("world(1)", x.world(1), 2);
        due("world(2)", x.world(2), 3);
        due("world(3)", x.world(3), NONE);
        due("world(1000)", x.world(1000), NONE);
        due("world(-1)", x.world(-1), BAD);
        due("world(255) of 256", Check.laid("f8;p9,3;s2,5,0;").world(255), 255);
        CarvedWeeks denied = Check.laid("f2;i1,3;i3,1;p9,3;s2,5,0;");
        due("alike: worlds", denied.count(5), 2);
        due("alike: world(1)", denied.world(1), 3);
    }
}
