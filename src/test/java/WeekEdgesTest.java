/** Promises 9, 11 to 15, 31 and 32 at their edges: each method is of one sentence of the document that names a boundary. */
public final class WeekEdgesTest {
    private static final int BAD = -1, NO = -2, FULL = -3;
    private static final int GRANITE = 0, LIMESTONE = 1, SKIN = 2, ARCH = 3;
    private static final Check CHECK = new Check("WeekEdgesTest");

    public static void main(String[] args) {
        deedToAWorld();
        deedToTheSame();
        hoursAsHardness();
        hoursOfSkin();
        roomOfAStone();
        trueAsTheTruthIsThen();
        marksAtMost();
        chiselledForAsManyHours();
        chiselledByAnyone();
        thoseBehindComeDown();
        roomIsFreeAgain();
        hoursAtTheBell();
        limestoneWearsOff();
        skinWearsOff();
        graniteAndArchStay();
        severalWearOff();
        nineHundredAndNinetyNine();
        undoneIsTheLatest();
        lastEightCanBe();
        whatIsNoDeed();
        keptTwoAtMost();
        backAsKeptLast();
        nothingIsUndoneBehindBack();
        CHECK.end();
    }

    private static void due(String call, long got, long want) {
        CHECK.due(call, got, want);
    }

    private static void deedToAWorld() {
        CHECK.sentence("A DEED: THE TRUTH is a set: how many FACTS are otherwise than they were. BAD; NO: it is no WORLD.");
        CarvedWeeks x = Check.laid("f3;i0,2;i4,1;p9,0;s3,1,0;");
        int[] wants = {0, NO, 1, 1, 3, NO, 1, NO};
        for (int set = 0; set < wants.length; set++) {
            due("deed(" + set + ")", x.deed(set), wants[set]);
        }
        due("the last one that was", x.count(6), 6);
        due("deed(8)", x.deed(8), BAD);
        due("deed(-1)", x.deed(-1), BAD);
        CarvedWeeks eight = Check.laid("f8;p9,0;s3,1,0;");
        due("all of eight", eight.deed(255), 8);
        due("all of eight back", eight.deed(0), 8);
        due("the last fact", eight.deed(128), 1);
        due("deed(256)", eight.deed(256), BAD);
    }

    private static void deedToTheSame() {
        CHECK.sentence("how many FACTS are otherwise than they were");
        CarvedWeeks x = Check.laid("f3;d1;p9,0;s3,1,0;");
        due("deed to the same set", x.deed(2), 0);
        due("it can be undone", x.undo(), 0);
        due("truth", x.count(6), 2);
    }

    private static void hoursAsHardness() {
        CHECK.sentence("he needs as many hours as HARDNESS");
        for (int hardness = 1; hardness <= 9; hardness++) {
            for (int kind : new int[] {GRANITE, LIMESTONE, ARCH}) {
                String stone = "s6," + hardness + "," + kind + ";";
                String what = " at " + stone;
                CarvedWeeks just = Check.laid("p" + hardness + ",0;" + stone);
                due("hours enough" + what, just.carve(0, 0, 0, true), 0);
                due("hours left" + what, just.person(0, 2), 0);
                due("none for a second" + what, just.carve(0, 0, 0, true), NO);
                CarvedWeeks less = Check.laid("p" + (hardness - 1) + ",0;" + stone);
                due("an hour less" + what, less.carve(0, 0, 0, true), NO);
                due("no mark" + what, less.count(7), 0);
                due("no hour spent" + what, less.person(0, 2), hardness - 1);
            }
        }
    }

    private static void hoursOfSkin() {
        CHECK.sentence("(of SKIN 1)");
        for (int hardness = 1; hardness <= 9; hardness++) {
            String stone = "s6," + hardness + ",2;";
            CarvedWeeks x = Check.laid("p2,0;" + stone);
            due("an hour at " + stone, x.carve(0, 0, 0, true), 0);
            due("hours left at " + stone, x.person(0, 2), 1);
            due("another at " + stone, x.carve(0, 0, 0, true), 1);
            due("none left at " + stone, x.carve(0, 0, 0, true), NO);
            due("no hours at all at " + stone, Check.laid("p0,0;" + stone).carve(0, 0, 0, true), NO);
        }
    }

    private static void roomOfAStone() {
        CHECK.sentence("he needs as many hours as HARDNESS (of SKIN 1), the STONE room");
        for (int room = 1; room <= 6; room++) {
            CarvedWeeks x = Check.laid("p40,0;s" + room + ",1,0;s1,1,0;");
            for (int m = 0; m < room; m++) {
                due("room that is free", x.stone(0, 3), room - m);
                due("mark " + m + " of " + room, x.carve(0, 0, 0, true), m);
            }
            due("free then", x.stone(0, 3), 0);
            due("room as told", x.stone(0, 0), room);
            due("no room", x.carve(0, 0, 0, true), NO);
            due("at the other stone", x.carve(0, 1, 0, true), room);
        }
    }

    private static void trueAsTheTruthIsThen() {
        CHECK.sentence("true (as THE TRUTH is then) or a lie");
        CarvedWeeks x = Check.laid("f8;d7;p40,0;s6,1,0;s6,1,0;");
        x.carve(0, 0, 7, true);
        x.carve(0, 0, 7, false);
        x.carve(0, 0, 0, true);
        x.carve(0, 0, 0, false);
        x.deed(1);
        x.carve(0, 0, 7, true);
        x.carve(0, 0, 0, false);
        int[] sayings = {14, 15, 1, 0, 15, 1};
        int[] so = {0, 1, 0, 1, 1, 0};
        for (int m = 0; m < sayings.length; m++) {
            due("saying of mark " + m, x.mark(m, 0), sayings[m]);
            due("so by the truth of now, mark " + m, x.mark(m, 4), so[m]);
        }
    }

    private static void marksAtMost() {
        CHECK.sentence("12 MARKS at most, 0, 1, .. as they are cut.");
        CarvedWeeks x = Check.laid("p40,0;s6,1,0;s6,1,0;s6,1,0;");
        for (int m = 0; m < 12; m++) {
            due("mark", x.carve(0, m / 4, m % 4, true), m);
        }
        due("a thirteenth", x.carve(0, 0, 0, true), FULL);
        for (int m = 0; m < 12; m++) {
            due("its stone", x.mark(m, 1), m / 4);
            due("its saying", x.mark(m, 0), m % 4 * 2 + 1);
        }
        due("mark 12", x.mark(12, 0), BAD);
        due("one gone", x.chisel(0, 11), 11);
        due("mark 11", x.mark(11, 0), BAD);
        due("a twelfth again", x.carve(0, 2, 0, false), 11);
        due("its saying", x.mark(11, 0), 0);
        due("a thirteenth again", x.carve(0, 2, 0, true), FULL);
    }

    private static void chiselledForAsManyHours() {
        CHECK.sentence("One can be chiselled away for as many hours");
        for (int hardness = 1; hardness <= 9; hardness++) {
            for (int kind = GRANITE; kind <= ARCH; kind++) {
                int hours = kind == SKIN ? 1 : hardness;
                String stone = "s6," + hardness + "," + kind + ";";
                CarvedWeeks x = Check.laid("p" + hours + ",0;p" + (hours - 1) + ",0;p40,0;" + stone);
                x.carve(2, 0, 0, true);
                x.carve(2, 0, 0, true);
                due("an hour less at " + stone, x.chisel(1, 0), NO);
                due("none spent at " + stone, x.person(1, 2), hours - 1);
                due("hours enough at " + stone, x.chisel(0, 0), 1);
                due("all spent at " + stone, x.person(0, 2), 0);
                due("none left at " + stone, x.chisel(0, 0), NO);
                due("the last one at " + stone, x.chisel(2, 0), 0);
                due("no mark at " + stone, x.chisel(2, 0), BAD);
            }
        }
    }

    private static void chiselledByAnyone() {
        CHECK.sentence("A PERSON chisels a MARK away");
        CarvedWeeks x = Check.laid("p5,0;p5,0;s6,5,0;");
        x.carve(0, 0, 0, true);
        due("by another than who cut it", x.chisel(1, 0), 0);
        due("whose hours are spent", x.person(1, 2), 0);
        x.bell();
        x.carve(0, 0, 0, true);
        x.bell();
        due("by who cut it", x.chisel(0, 0), 0);
        due("the other's are not", x.person(1, 2), 5);
    }

    private static void thoseBehindComeDown() {
        CHECK.sentence("it is GONE (those behind it come one down)");
        for (int gone = 0; gone < 4; gone++) {
            CarvedWeeks x = Check.laid("f4;p20,0;p20,0;s2,1,0;s2,1,3;");
            for (int m = 0; m < 4; m++) {
                x.carve(m % 2, m / 2, m, true);
                x.bell();
            }
            due("left", x.chisel(0, gone), 3);
            for (int m = 0; m < 3; m++) {
                int was = m < gone ? m : m + 1;
                due("saying", x.mark(m, 0), 2 * was + 1);
                due("stone", x.mark(m, 1), was / 2);
                due("by whom", x.mark(m, 2), was % 2);
                due("bells heard", x.mark(m, 3), 4 - was);
            }
            due("no fourth", x.mark(3, 0), BAD);
        }
    }

    private static void roomIsFreeAgain() {
        CHECK.sentence("its room free again");
        CarvedWeeks x = Check.laid("p40,0;s1,1,0;s1,1,1;s1,1,2;");
        for (int s = 0; s < 3; s++) {
            x.carve(0, s, 0, true);
            due("full", x.carve(0, s, 0, true), NO);
        }
        due("chiselled", x.chisel(0, 0), 2);
        due("free by the chisel", x.stone(0, 3), 1);
        due("the others are full", x.stone(1, 3) + x.stone(2, 3), 0);
        due("cut there", x.carve(0, 0, 0, true), 2);
        due("LIMESTONE has worn off", x.bell(), 2);
        due("free by the bell", x.stone(1, 3), 1);
        due("SKIN not yet", x.stone(2, 3), 0);
        due("SKIN has worn off", x.bell(), 1);
        due("free, too", x.stone(2, 3), 1);
    }

    private static void hoursAtTheBell() {
        CHECK.sentence("At the BELL all have their hours again, the next week begins");
        CarvedWeeks x = Check.laid("p40,0;p3,0;p0,0;s6,3,0;");
        x.carve(0, 0, 0, true);
        x.carve(1, 0, 0, true);
        due("none left", x.person(1, 2), 0);
        due("bell", x.bell(), 2);
        due("hours of the first", x.person(0, 2), 40);
        due("hours of the second", x.person(1, 2), 3);
        due("hours of who has none", x.person(2, 2), 0);
        due("weeks gone by", x.count(8), 1);
        x.bell();
        due("hours are not saved", x.person(1, 2), 3);
        due("two weeks", x.count(8), 2);
        due("the truth stays", x.count(6), 0);
    }

    private static void limestoneWearsOff() {
        CHECK.sentence("at LIMESTONE those that have heard as many BELLS as its HARDNESS, this one, too");
        for (int hardness = 1; hardness <= 9; hardness++) {
            CarvedWeeks x = Check.laid("p9,0;s6," + hardness + ",1;");
            x.carve(0, 0, 0, true);
            for (int heard = 1; heard < hardness; heard++) {
                due("bell " + heard + " of " + hardness, x.bell(), 1);
                due("heard", x.mark(0, 3), heard);
            }
            due("the last bell of " + hardness, x.bell(), 0);
            due("none behind it", x.bell(), 0);
        }
    }

    private static void skinWearsOff() {
        CHECK.sentence("on SKIN two");
        for (int hardness = 1; hardness <= 9; hardness++) {
            CarvedWeeks x = Check.laid("p9,0;s6," + hardness + ",2;");
            x.carve(0, 0, 0, true);
            due("the first bell, hardness " + hardness, x.bell(), 1);
            x.carve(0, 0, 0, true);
            due("the second, hardness " + hardness, x.bell(), 1);
            due("the later one has heard one", x.mark(0, 3), 1);
            due("the third, hardness " + hardness, x.bell(), 0);
        }
    }

    private static void graniteAndArchStay() {
        CHECK.sentence("at GRANITE, ARCH never");
        CarvedWeeks x = Check.laid("p40,0;s1,1,0;s1,1,3;s1,2,0;s1,2,3;s1,9,0;");
        for (int s = 0; s < 5; s++) {
            x.carve(0, s, 0, true);
        }
        for (int k = 1; k <= 400; k++) {
            due("bell " + k, x.bell(), 5);
        }
        due("bells heard", x.mark(0, 3), 400);
        due("bells heard at an ARCH", x.mark(3, 3), 400);
    }

    private static void severalWearOff() {
        CHECK.sentence("MARKS wear off (go likewise)");
        CarvedWeeks x = Check.laid("f6;p40,0;s6,1,1;s2,1,0;s2,1,2;");
        int[] stones = {0, 0, 1, 0, 2, 0, 1, 2, 0, 0};
        for (int m = 0; m < stones.length; m++) {
            x.carve(0, stones[m], m % 6, true);
        }
        due("six of ten at once, the first and the last among them", x.bell(), 4);
        int[] left = {2, 4, 6, 7};
        for (int m = 0; m < left.length; m++) {
            due("saying of mark " + m, x.mark(m, 0), left[m] % 6 * 2 + 1);
            due("stone of mark " + m, x.mark(m, 1), stones[left[m]]);
            due("bells heard by mark " + m, x.mark(m, 3), 1);
        }
        due("the SKIN ones", x.bell(), 2);
        due("what is left", x.mark(1, 0), 1);
        due("room", x.stone(0, 3), 6);
        CarvedWeeks all = Check.laid("p40,0;s6,1,1;s6,1,1;");
        for (int m = 0; m < 12; m++) {
            all.carve(0, m / 6, 0, true);
        }
        due("twelve at once", all.bell(), 0);
        due("all come back", all.undo(), 7);
        due("marks then", all.count(7), 12);
    }

    /** Only here is an object used for more than the 512 calls of the document: the thousandth BELL is not nearer. */
    private static void nineHundredAndNinetyNine() {
        CHECK.sentence("The BELL: how many MARKS are left. NO: there were 999.");
        CarvedWeeks x = new CarvedWeeks();
        x.carve(0, 0, 0, true);
        for (int k = 1; k <= 999; k++) {
            due("bell " + k, x.bell(), 1);
        }
        due("one more", x.bell(), NO);
        due("weeks", x.count(8), 999);
        due("bells heard", x.mark(0, 3), 999);
        due("the last is undone", x.undo(), 7);
        due("so there were 998", x.bell(), 1);
        due("and 999", x.bell(), NO);
    }

    private static void undoneIsTheLatest() {
        CHECK.sentence("UNDONE is the latest deed(), carve(), chisel(), bell()");
        CarvedWeeks x = Check.laid("f2;d0;p9,0;p9,0;s2,3,0;s2,1,1;");
        String[] sights = new String[6];
        sights[0] = Sight.of(x);
        due("carve", x.carve(0, 1, 0, true), 0);
        sights[1] = Sight.of(x);
        due("carve", x.carve(1, 0, 1, false), 1);
        sights[2] = Sight.of(x);
        due("chisel", x.chisel(0, 0), 1);
        sights[3] = Sight.of(x);
        due("deed", x.deed(2), 2);
        sights[4] = Sight.of(x);
        due("bell", x.bell(), 1);
        for (int left = 4; left >= 0; left--) {
            due("undo", x.undo(), left);
            CHECK.alike("as it was behind " + left, Sight.of(x), sights[left]);
        }
        due("nothing is left", x.undo(), NO);
        due("nor then", x.undo(), NO);
        CHECK.alike("as it was at first", Sight.of(x), sights[0]);
    }

    private static void lastEightCanBe() {
        CHECK.sentence("(the last 8 can be)");
        for (int done = 1; done <= 20; done++) {
            CarvedWeeks x = new CarvedWeeks();
            for (int k = 1; k <= done; k++) {
                x.bell();
            }
            int can = done < 8 ? done : 8;
            due("behind " + done, x.count(9), can);
            for (int left = can - 1; left >= 0; left--) {
                due("undo", x.undo(), left);
                due("weeks", x.count(8), done - can + left);
            }
            due("no ninth", x.undo(), NO);
            due("weeks stay", x.count(8), done - can);
            due("can be", x.count(9), 0);
        }
        CarvedWeeks y = new CarvedWeeks();
        for (int k = 0; k < 11; k++) {
            y.bell();
        }
        y.undo();
        y.undo();
        y.undo();
        due("three undone of eleven", y.count(8), 8);
        for (int k = 0; k < 4; k++) {
            y.bell();
        }
        due("four more", y.count(9), 8);
        for (int left = 7; left >= 0; left--) {
            due("undo", y.undo(), left);
            due("weeks", y.count(8), 4 + left);
        }
        due("no more", y.undo(), NO);
    }

    private static void whatIsNoDeed() {
        CHECK.sentence("UNDONE is the latest deed(), carve(), chisel(), bell()");
        CarvedWeeks x = new CarvedWeeks();
        x.bell();
        x.keep();
        x.write('f');
        x.wipe();
        x.fault();
        x.lay();
        x.deed(1);
        x.deed(-1);
        x.carve(1, 1, 3, true);
        x.carve(2, 0, 0, true);
        x.chisel(0, 0);
        x.year(1, 60, 0);
        due("only the bell", x.count(9), 1);
        due("it is undone", x.undo(), 0);
        due("weeks", x.count(8), 0);
        due("what is kept is not", x.count(10), 1);
        due("back behind undo", x.back(), 0);
        due("weeks then", x.count(8), 1);
        due("undo is not undone", x.undo(), NO);
    }

    private static void keptTwoAtMost() {
        CHECK.sentence("KEPT are THE TRUTH, MARKS, hours, weeks: 2 at most.");
        CarvedWeeks x = Check.laid("f2;p9,0;s2,3,0;s2,1,3;");
        x.deed(1);
        x.carve(0, 0, 0, true);
        x.bell();
        x.carve(0, 1, 1, false);
        String first = Sight.standing(x);
        due("keep", x.keep(), 1);
        x.chisel(0, 0);
        x.deed(3);
        due("keep another", x.keep(), 2);
        due("a third", x.keep(), FULL);
        due("kept", x.count(10), 2);
        x.bell();
        due("a third still", x.keep(), FULL);
        due("the second", x.back(), 1);
        due("a third, for one is gone", x.keep(), 2);
        due("it back", x.back(), 1);
        due("the first", x.back(), 0);
        CHECK.alike("as kept", Sight.standing(x), first);
        due("no more", x.back(), NO);
        due("truth stays", x.count(6), 1);
    }

    private static void backAsKeptLast() {
        CHECK.sentence("As KEPT last: how many are left");
        CarvedWeeks x = new CarvedWeeks();
        due("none kept", x.back(), NO);
        int[] weeks = {0, 1, 2};
        x.keep();
        x.bell();
        x.keep();
        x.bell();
        due("last first", x.back(), 1);
        due("weeks", x.count(8), weeks[1]);
        x.bell();
        x.bell();
        due("keep in its place", x.keep(), 2);
        x.bell();
        due("that one", x.back(), 1);
        due("weeks of it", x.count(8), 3);
        due("the first", x.back(), 0);
        due("weeks of the first", x.count(8), weeks[0]);
        due("none left", x.back(), NO);
        due("keep of what is back", x.keep(), 1);
        x.carve(0, 0, 0, true);
        due("kept is not changed by later marks", x.back(), 0);
        due("marks", x.count(7), 0);
    }

    private static void nothingIsUndoneBehindBack() {
        CHECK.sentence("nothing is UNDONE then");
        CarvedWeeks x = new CarvedWeeks();
        x.keep();
        for (int k = 0; k < 11; k++) {
            x.bell();
        }
        due("back", x.back(), 0);
        due("can be undone", x.count(9), 0);
        due("undo", x.undo(), NO);
        due("weeks", x.count(8), 0);
        for (int k = 1; k <= 9; k++) {
            x.bell();
        }
        for (int left = 7; left >= 0; left--) {
            due("undo of what came behind", x.undo(), left);
            due("weeks", x.count(8), 1 + left);
        }
        due("no more", x.undo(), NO);
        CarvedWeeks none = new CarvedWeeks();
        none.bell();
        due("a back that is refused", none.back(), NO);
        due("leaves what can be undone", none.undo(), 0);
    }
}
