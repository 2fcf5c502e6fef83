/** Promises 16 to 22 at their edges: each method is of one sentence of the document that names a boundary. */
public final class MondayEdgesTest {
    private static final int BAD = -1, NONE = -4;
    private static final Check CHECK = new Check("MondayEdgesTest");

    public static void main(String[] args) {
        unlikePersons();
        oneMoreAtAnArch();
        readByOneOrTwo();
        knownWithoutMarks();
        knownInEachWorld();
        marksDisagree();
        rightAndWrong();
        allOfEight();
        beliefWithoutMarks();
        beliefByLies();
        beliefLowestTerms();
        beliefOfMuch();
        beliefNone();
        leastOfNone();
        leastFewestThenLowest();
        leastByTruth();
        soonestHours();
        soonestNone();
        lieMost();
        lieLowest();
        lieLetBe();
        lieAtNoArch();
        lieNone();
        safeForAnyPerson();
        CHECK.end();
    }

    private static void due(String call, long got, long want) {
        CHECK.due(call, got, want);
    }

    private static void dueKnown(String when, CarvedWeeks x, int h, int... want) {
        for (int what = 0; what < want.length; what++) {
            due(when + ": known(" + h + ", " + what + ")", x.known(h, what), want[what]);
        }
    }

    private static void unlikePersons() {
        CHECK.sentence("HANDS of a SAYING: how many unlike PERSONS have cut MARKS of it");
        CarvedWeeks x = Check.laid("f2;p9,0;p9,0;p9,0;p9,0;p9,0;s6,1,0;s6,1,0;");
        due("nobody", x.hands(1), 0);
        for (int i = 0; i < 5; i++) {
            x.carve(i, 0, 0, true);
            due("person " + i, x.hands(1), i + 1);
            x.carve(i, 1, 0, true);
            due("person " + i + " again, at another stone", x.hands(1), i + 1);
        }
        due("of the fact's other saying", x.hands(0), 0);
        due("of another fact", x.hands(3), 0);
        x.chisel(0, 9);
        due("one of two of his gone", x.hands(1), 5);
        x.chisel(0, 8);
        due("both gone", x.hands(1), 4);
    }

    private static void oneMoreAtAnArch() {
        CHECK.sentence("and one more, if one of these is at an ARCH");
        CarvedWeeks x = Check.laid("f2;p9,0;p9,0;p9,0;p9,0;p9,0;s6,1,0;s6,1,3;s6,1,3;");
        x.carve(0, 1, 0, true);
        due("one at an ARCH", x.hands(1), 2);
        x.carve(0, 2, 0, true);
        due("at two of them", x.hands(1), 2);
        x.carve(0, 1, 0, true);
        due("thrice", x.hands(1), 2);
        x.carve(1, 0, 0, true);
        due("and another at a stone that is none", x.hands(1), 3);
        due("a saying without", x.hands(3), 0);
        x.carve(2, 0, 1, true);
        due("one more only for those there", x.hands(3), 1);
        for (int i = 2; i < 5; i++) {
            x.carve(i, 1, 0, true);
        }
        due("all five, and one more", x.hands(1), 6);
    }

    private static void readByOneOrTwo() {
        CHECK.sentence("By the RULE of h (1, 2) a SAYING is READ, if it has h HANDS or more.");
        CarvedWeeks x = Check.laid("f4;p9,0;p9,0;p9,0;s6,1,0;s6,1,3;");
        due("none by 1", x.known(1, 4), 0);
        due("none by 2", x.known(2, 4), 0);
        x.carve(0, 0, 0, true);
        x.carve(0, 0, 1, true);
        x.carve(1, 0, 1, true);
        x.carve(0, 0, 2, true);
        x.carve(1, 0, 2, true);
        x.carve(2, 0, 2, true);
        x.carve(2, 1, 3, false);
        due("all by 1", x.known(1, 4), 1 << 1 | 1 << 3 | 1 << 5 | 1 << 6);
        due("two or more by 2", x.known(2, 4), 1 << 3 | 1 << 5 | 1 << 6);
        due("by 0", x.known(0, 4), BAD);
        due("by 3", x.known(3, 4), BAD);
    }

    private static void knownWithoutMarks() {
        CHECK.sentence("KNOWN is a SAYING, if it is so in each WORLD in which all are so that are READ");
        dueKnown("nothing", Check.laid("f8;p9,0;s1,1,0;"), 1, 0, 0, 0, 0, 0, 0);
        dueKnown("so by a law", Check.laid("f3;i5,4;d2;p9,0;s1,1,0;"), 1, 4, 0, 1, 0, 0, 0);
        dueKnown("not so by a law", Check.laid("f3;i4,5;p9,0;s1,1,0;"), 2, 0, 4, 1, 0, 0, 0);
        dueKnown("one world alone", Check.laid("f2;i0,1;i3,2;d1;p9,0;s1,1,0;"), 2, 2, 1, 2, 0, 0, 0);
        dueKnown("one fact", Check.laid("f1;i1,0;d0;p9,0;s1,1,0;"), 1, 1, 0, 1, 0, 0, 0);
    }

    private static void knownInEachWorld() {
        CHECK.sentence("KNOWN is a SAYING, if it is so in each WORLD in which all are so that are READ");
        CarvedWeeks x = Check.laid("f4;i0,2;i2,4;i4,6;p9,0;s6,1,0;");
        x.carve(0, 0, 3, true);
        dueKnown("all by the last, against the laws", x, 1, 0, 15, 4, 0, 128, 0);
        x.deed(15);
        dueKnown("all are wrong", x, 1, 0, 15, 0, 4, 128, 0);
        x.chisel(0, 0);
        x.carve(0, 0, 0, true);
        dueKnown("all by the first", x, 1, 15, 0, 4, 0, 1, 0);
        CarvedWeeks either = Check.laid("f3;i0,4;i1,4;d2;p9,0;s6,1,0;");
        dueKnown("by both ways of another fact", either, 1, 4, 0, 1, 0, 0, 0);
    }

    private static void marksDisagree() {
        CHECK.sentence("where there is no such WORLD, nothing is KNOWN: the MARKS DISAGREE");
        CarvedWeeks x = Check.laid("f3;i5,4;d2;p9,0;p9,0;s6,1,0;");
        x.carve(0, 0, 0, true);
        dueKnown("they agree", x, 1, 4, 1, 2, 0, 2, 0);
        x.carve(1, 0, 0, false);
        dueKnown("nothing, not even what is so by a law", x, 1, 0, 0, 0, 0, 3, 1);
        dueKnown("by the rule of two none is read", x, 2, 4, 0, 1, 0, 0, 0);
        x.chisel(0, 1);
        x.carve(1, 0, 2, false);
        dueKnown("one that is against a law", x, 1, 0, 0, 0, 0, 34, 1);
        x.carve(0, 0, 2, false);
        dueKnown("by two", x, 2, 0, 0, 0, 0, 32, 1);
    }

    private static void rightAndWrong() {
        CHECK.sentence("RIGHT, WRONG: how many FACTS are KNOWN (so, or not so) as THE TRUTH is, other than it is.");
        for (int truth = 0; truth < 8; truth++) {
            CarvedWeeks x = Check.laid("f3;p9,0;s6,1,0;");
            x.carve(0, 0, 0, true);
            x.carve(0, 0, 1, false);
            x.deed(truth);
            int right = (truth & 1) == 0 ? 1 : 0;
            right += (truth & 2) == 2 ? 1 : 0;
            dueKnown("truth " + truth, x, 1, 2, 1, right, 2 - right, 6, 0);
        }
    }

    private static void allOfEight() {
        CHECK.sentence("SAYINGS that are READ, as bits (4)");
        CarvedWeeks x = Check.laid("f8;p40,0;s6,1,0;s6,1,0;");
        for (int f = 0; f < 8; f++) {
            x.carve(0, f / 6, f, false);
        }
        dueKnown("eight lies", x, 1, 255, 0, 0, 8, 0x5555, 0);
        x.deed(255);
        dueKnown("that have come true", x, 1, 255, 0, 8, 0, 0x5555, 0);
        x.carve(0, 1, 7, false);
        dueKnown("the last fact's other saying, too", x, 1, 0, 0, 0, 0, 0xD555, 1);
    }

    private static void dueBelief(String when, CarvedWeeks x, int f, long above, long below) {
        due(when + ": belief(" + f + ", 0)", x.belief(f, 0), above);
        due(when + ": belief(" + f + ", 1)", x.belief(f, 1), below);
    }

    private static void beliefWithoutMarks() {
        CHECK.sentence("each WORLD weighs 1");
        dueBelief("half of all", Check.laid("f8;p9,0;s6,1,0;"), 7, 1, 2);
        dueBelief("one of three", Check.laid("f2;i0,2;p9,0;s6,1,0;"), 0, 1, 3);
        dueBelief("in none", Check.laid("f2;i0,1;p9,0;s6,1,0;"), 0, 0, 1);
        dueBelief("in each", Check.laid("f2;i1,0;d0;p9,0;s6,1,0;"), 0, 1, 1);
    }

    private static void beliefByLies() {
        CHECK.sentence("times with each MARK 10 less L of who cut it, if it is so in that WORLD, L if not");
        for (int lies = 0; lies <= 9; lies++) {
            CarvedWeeks x = Check.laid("f1;p9," + lies + ";s6,1,0;");
            x.carve(0, 0, 0, false);
            int divisor = lies == 0 ? 10 : lies == 5 ? 5 : lies % 2 == 0 ? 2 : 1;
            dueBelief("one mark of L " + lies, x, 0, (10 - lies) / divisor, 10 / divisor);
            x.chisel(0, 0);
            x.carve(0, 0, 0, true);
            dueBelief("its other saying of L " + lies, x, 0, lies / divisor, 10 / divisor);
        }
        CarvedWeeks two = Check.laid("f1;p9,1;p9,4;s6,1,0;");
        two.carve(0, 0, 0, false);
        two.carve(1, 0, 0, true);
        dueBelief("each by who cut it: 9 times 4 of that and 1 times 6", two, 0, 6, 7);
        two.carve(0, 0, 0, false);
        dueBelief("the same again counts again: 324 of 330", two, 0, 54, 55);
    }

    private static void beliefLowestTerms() {
        CHECK.sentence("in lowest terms");
        CarvedWeeks x = Check.laid("f2;p40,2;s6,1,0;s6,1,0;");
        x.carve(0, 0, 0, false);
        dueBelief("16 of 20", x, 0, 4, 5);
        dueBelief("10 of 20", x, 1, 1, 2);
        x.carve(0, 0, 0, true);
        dueBelief("32 of 64", x, 0, 1, 2);
        CarvedWeeks sure = Check.laid("f2;p40,0;s6,1,0;s6,1,0;");
        sure.carve(0, 0, 0, false);
        dueBelief("20 of 20", sure, 0, 1, 1);
        sure.chisel(0, 0);
        sure.carve(0, 0, 0, true);
        dueBelief("0 of 20", sure, 0, 0, 1);
    }

    private static void beliefOfMuch() {
        CHECK.sentence("what those weigh in which the FACT is so by what all weigh, in lowest terms");
        CarvedWeeks x = Check.laid("f8;p40,9;s6,1,0;s6,1,0;");
        for (int m = 0; m < 12; m++) {
            x.carve(0, m / 6, 7, true);
        }
        dueBelief("the ninefold twelve times", x, 7, 282429536481L, 282429536482L);
        dueBelief("another fact", x, 0, 1, 2);
        CarvedWeeks unlike = Check.laid("f8;p40,1;s6,1,0;s6,1,0;");
        for (int m = 0; m < 12; m++) {
            unlike.carve(0, m / 6, 0, m > 0);
        }
        dueBelief("eleven against one", unlike, 0, 1, 3486784402L);
    }

    private static void beliefNone() {
        CHECK.sentence("none (all weigh 0)");
        CarvedWeeks x = Check.laid("f2;p9,0;p9,1;s6,1,0;");
        x.carve(0, 0, 0, true);
        x.carve(1, 0, 0, false);
        dueBelief("one who never lies, and one who does", x, 0, 0, 1);
        x.carve(0, 0, 0, false);
        dueBelief("both of one who never lies", x, 0, NONE, NONE);
        dueBelief("of the other fact, too", x, 1, NONE, NONE);
        x.undo();
        dueBelief("undone", x, 1, 1, 2);
        CarvedWeeks law = Check.laid("f2;i1,0;d0;p9,0;s6,1,0;");
        law.carve(0, 0, 0, false);
        dueBelief("against a law", law, 1, NONE, NONE);
    }

    private static void leastOfNone() {
        CHECK.sentence("(.. sets: 0, too)");
        due("for no fact", Check.laid("f8;p9,0;s1,1,0;").least(0), 0);
        CarvedWeeks x = Check.laid("f2;i0,1;p9,0;s1,1,0;");
        due("for what is known by laws", x.least(1), 0);
        due("and what is not", x.least(3), 2);
        due("for what laws tell to be so", Check.laid("f2;i1,0;d0;p9,0;s1,1,0;").least(1), 0);
        due("nothing to cut", x.soonest(1), 0);
        due("none at all", x.soonest(0), 0);
        x.carve(0, 0, 0, false);
        due("marks let be", x.least(1), 0);
        due("without room, nothing to cut", x.soonest(0), 0);
    }

    private static void leastFewestThenLowest() {
        CHECK.sentence("of sets of FACTS .. that of fewest, of several the lowest");
        CarvedWeeks x = Check.laid("f4;i0,2;i2,0;p9,0;s1,1,0;");
        due("fact 1 by fact 0, the lower", x.least(2), 1);
        due("both by one", x.least(3), 1);
        due("and the others", x.least(15), 13);
        due("fewest, though higher", Check.laid("f3;i0,4;i2,4;p9,0;s1,1,0;").least(3), 4);
        due("all of eight", Check.laid("f8;p9,0;s1,1,0;").least(255), 255);
        due("the last of eight", Check.laid("f8;p9,0;s1,1,0;").least(128), 128);
        due("all of eight by the last", Check.laid("f8;i0,2;i2,4;i4,6;i6,8;i8,10;i10,12;i12,14;p9,0;s1,1,0;").least(255),
                128);
        due("one fact", Check.laid("f1;p9,0;s1,1,0;").least(1), 1);
        due("least(256)", Check.laid("f8;p9,0;s1,1,0;").least(256), BAD);
    }

    private static void leastByTruth() {
        CHECK.sentence("just their true SAYINGS being READ, all of the set would be KNOWN");
        int[] wants = {2, 0, 3, 1};
        for (int truth = 0; truth < 4; truth++) {
            if (truth != 1) {
                CarvedWeeks x = Check.laid("f2;i0,2;p9,0;s3,1,0;");
                x.deed(truth);
                due("least(3) by truth " + truth, x.least(3), wants[truth]);
            }
        }
        CarvedWeeks x = Check.laid("f2;p9,0;s3,1,0;");
        x.carve(0, 0, 0, true);
        x.carve(0, 0, 1, false);
        due("marks that are there let be", x.least(3), 3);
        x.carve(0, 0, 0, false);
        due("those that disagree, too", x.least(1), 1);
    }

    private static void soonestHours() {
        CHECK.sentence("the fewest hours (whoever has them) in which the true SAYINGS of LEAST can all be cut at STONES"
                + " as they have room now");
        CarvedWeeks x = Check.laid("f8;p0,0;s1,9,0;s2,3,1;s3,9,2;s2,2,3;");
        int[] hours = {0, 1, 2, 3, 5, 7, 10, 13, 22};
        for (int marks = 0; marks <= 8; marks++) {
            due("for " + marks, x.soonest((1 << marks) - 1), hours[marks]);
        }
        CarvedWeeks taken = Check.laid("f3;p9,0;s1,4,0;s2,1,0;s1,1,2;");
        due("three", taken.soonest(7), 3);
        taken.carve(0, 1, 0, true);
        due("one room of them taken, though by a mark of LEAST", taken.soonest(7), 6);
        taken.carve(0, 0, 1, false);
        due("just room enough", taken.soonest(5), 2);
        due("a room too few", taken.soonest(7), NONE);
    }

    private static void soonestNone() {
        CHECK.sentence("none (not so much room)");
        CarvedWeeks x = Check.laid("f8;p9,0;s6,1,0;s1,1,0;");
        due("seven", x.soonest(127), 7);
        due("eight", x.soonest(255), NONE);
        CarvedWeeks full = Check.laid("f1;p9,0;s1,1,0;");
        full.carve(0, 0, 0, true);
        due("no room at all", full.soonest(1), NONE);
        due("for nothing none is needed", full.soonest(0), 0);
        CarvedWeeks twelve = Check.laid("f8;p40,0;s6,1,0;s6,1,0;s6,2,0;s2,3,0;");
        for (int m = 0; m < 12; m++) {
            twelve.carve(0, m / 6, 0, true);
        }
        due("room beside twelve marks", twelve.soonest(255), 18);
    }

    private static void lieMost() {
        CHECK.sentence("that by which .. most would be WRONG by the RULE of h");
        CarvedWeeks x = Check.laid("f3;i2,4;p9,0;p9,0;s6,1,0;");
        due("fact 1, for two would be", x.lie(0, 1, 0), 2);
        due("how much", x.lie(0, 1, 1), 2);
        x.carve(1, 0, 2, false);
        due("one is WRONG now: fact 0 and fact 1 add one each", x.lie(0, 1, 0), 0);
        due("how much would be, with that", x.lie(0, 1, 1), 2);
        CarvedWeeks all = Check.laid("f8;i0,2;i2,4;i4,6;i6,8;i8,10;i10,12;i12,14;p0,0;s1,9,0;");
        due("the one of eight", all.lie(0, 1, 0), 0);
        due("all eight", all.lie(0, 1, 1), 8);
        all.deed(255);
        due("the other of eight", all.lie(0, 1, 0), 15);
        due("all eight again", all.lie(0, 1, 1), 8);
    }

    private static void lieLowest() {
        CHECK.sentence("of SAYINGS that are not so by THE TRUTH .. of several the lowest");
        CarvedWeeks x = Check.laid("f3;p9,0;s6,1,0;");
        int[] wants = {0, 1, 0, 1, 0, 1, 0, 1};
        for (int truth = 0; truth < 8; truth++) {
            x.deed(truth);
            due("by truth " + truth, x.lie(0, 1, 0), wants[truth]);
            due("how much by truth " + truth, x.lie(0, 1, 1), 1);
        }
        x.carve(0, 0, 0, true);
        due("fact 0 is told", x.lie(0, 1, 0), 3);
        x.carve(0, 0, 1, true);
        due("and fact 1", x.lie(0, 1, 0), 5);
        x.carve(0, 0, 2, true);
        due("and fact 2: any lie disagrees", x.lie(0, 1, 0), NONE);
    }

    private static void lieLetBe() {
        CHECK.sentence("room, hours, 12 let be");
        CarvedWeeks hours = Check.laid("f1;p0,0;s1,9,0;");
        due("without hours", hours.lie(0, 1, 0), 0);
        CarvedWeeks room = Check.laid("f2;p9,0;s1,1,0;");
        room.carve(0, 0, 0, true);
        due("without room", room.lie(0, 1, 0), 2);
        due("how much", room.lie(0, 1, 1), 1);
        CarvedWeeks twelve = Check.laid("f2;p40,0;p40,0;s6,1,0;s6,1,0;");
        for (int m = 0; m < 12; m++) {
            twelve.carve(0, m / 6, 0, true);
        }
        due("behind twelve marks", twelve.lie(1, 1, 0), 2);
        due("how much behind twelve", twelve.lie(1, 1, 1), 1);
        due("by two hands it needs another", twelve.lie(1, 2, 0), NONE);
    }

    private static void lieAtNoArch() {
        CHECK.sentence("had he cut it as well (at no ARCH;");
        CarvedWeeks x = Check.laid("f2;p9,0;p9,0;s6,1,3;s6,1,0;");
        due("one hand alone", x.lie(0, 2, 0), NONE);
        x.carve(1, 1, 1, false);
        due("another's at no ARCH makes two", x.lie(0, 2, 0), 2);
        due("his own again does not", x.lie(1, 2, 0), NONE);
        x.chisel(1, 0);
        x.carve(1, 0, 1, false);
        due("at an ARCH it is READ now", x.known(2, 3), 1);
        due("so none is more WRONG", x.lie(0, 2, 0), NONE);
    }

    private static void lieNone() {
        CHECK.sentence("none (by none is more WRONG than now)");
        CarvedWeeks x = Check.laid("f1;p9,0;p9,0;s6,1,0;");
        x.carve(0, 0, 0, false);
        due("the one lie is cut", x.lie(1, 1, 0), NONE);
        due("how much of it", x.lie(1, 1, 1), NONE);
        due("by two it is not READ yet", x.lie(1, 2, 0), 0);
        due("how much of that", x.lie(1, 2, 1), 1);
        due("nor would it be by the same", x.lie(0, 2, 0), NONE);
        CarvedWeeks equal = Check.laid("f2;i0,3;i2,1;p9,0;s6,1,0;");
        equal.carve(0, 0, 0, false);
        due("as much WRONG, for they would disagree or not", equal.known(1, 3), 1);
        due("another lie disagrees", equal.lie(0, 1, 0), NONE);
        CarvedWeeks sure = Check.laid("f1;i0,1;p9,0;s6,1,0;");
        due("nothing can be WRONG where laws tell all", sure.lie(0, 1, 0), NONE);
        due("so it is safe", sure.safe(1), 1);
    }

    private static void safeForAnyPerson() {
        CHECK.sentence("SAFE: 1, if by the RULE of h there is none for any PERSON; 0.");
        CarvedWeeks x = Check.laid("f1;p9,0;p9,0;p9,0;p9,0;p9,0;s6,1,0;");
        due("by one hand", x.safe(1), 0);
        due("by two", x.safe(2), 1);
        for (int i = 0; i < 5; i++) {
            CarvedWeeks y = Check.laid("f2;p9,0;p9,0;p9,0;p9,0;p9,0;s6,1,0;");
            y.carve(i, 0, 0, false);
            due("a hand is there", y.safe(2), 0);
        }
        CarvedWeeks two = Check.laid("f1;p9,0;p9,0;s6,1,0;");
        two.carve(1, 0, 0, false);
        due("only the first gains", two.safe(2), 0);
        two.chisel(0, 0);
        two.carve(0, 0, 0, false);
        due("only the last gains", two.safe(2), 0);
        two.carve(1, 0, 0, false);
        due("none gains any more", two.safe(2), 1);
        due("nor by one", two.safe(1), 1);
        CarvedWeeks lone = Check.laid("f1;p9,0;s6,1,0;");
        lone.carve(0, 0, 0, false);
        due("one person alone has one hand", lone.safe(2), 1);
    }
}
