/** Promises 1 to 10 at their edges: each method is of one sentence of the document that names a boundary. */
public final class TextEdgesTest {
    private static final int BAD = -1, NO = -2, FULL = -3, NONE = -4;
    private static final String SMALLEST = "p0,0;s1,1,0;";
    private static final Check CHECK = new Check("TextEdgesTest");

    public static void main(String[] args) {
        lettersAtMost();
        lettersAsInAscii();
        oneOrTwoFigures();
        partedAndEnded();
        letterOfAnItem();
        factsOneToEight();
        factsFourWithout();
        factsAheadOfAll();
        factsToldAgain();
        lawSayings();
        lawsAtMost();
        factsAtFirst();
        personEdges();
        personsAtMost();
        stoneEdges();
        stonesAtMost();
        bidEdges();
        bidsOfPersonsToldAhead();
        bidsAtMost();
        firstFault();
        personAndStoneAtLeast();
        factsAtFirstAreAWorld();
        atFirst();
        layBeginsAnew();
        textAndTownAreTwo();
        textToldOften();
        worldsOfLaws();
        worldsLowestFirst();
        fiveHundredAndTwelveCalls();
        CHECK.end();
    }

    private static void due(String call, long got, long want) {
        CHECK.due(call, got, want);
    }

    private static void fault(String text, int want) {
        CarvedWeeks x = new CarvedWeeks();
        Check.type(x, text);
        due("fault of " + text, x.fault(), want);
    }

    /** A text that has no fault up to a last number that is too small or too large. */
    private static void numbers(String ahead, int first, int last, String behind) {
        for (int number = 0; number <= 99; number++) {
            boolean told = number >= first && number <= last;
            int start = ahead.lastIndexOf(';') + 1;
            fault(ahead + number + behind, told ? NONE : start);
        }
    }

    private static void lettersAtMost() {
        CHECK.sentence("A TEXT is letters (200 at most)");
        CarvedWeeks x = new CarvedWeeks();
        String all = "p01,1;s1,1,1;d00;" + "d0;".repeat(61);
        for (int k = 0; k < 200; k++) {
            due("letter " + k, x.write(all.charAt(k)), k + 1);
        }
        due("letters", x.count(11), 200);
        due("the 201st", x.write(';'), FULL);
        due("the last item counts", x.fault(), NONE);
        due("such a text is laid", x.lay(), 16);
        due("wipe", x.wipe(), 200);
        due("the first of the next text", x.write('f'), 1);
        CarvedWeeks open = new CarvedWeeks();
        Check.type(open, "d00;".repeat(49) + "f8,1");
        due("an item that needs the 201st letter", open.fault(), 196);
    }

    private static void lettersAsInAscii() {
        CHECK.sentence("A letter (32 to 126, as in ASCII)");
        CarvedWeeks x = new CarvedWeeks();
        int length = 0;
        for (int letter = 0; letter <= 160; letter++) {
            boolean told = letter >= 32 && letter <= 126;
            due("write(" + letter + ")", x.write(letter), told ? ++length : BAD);
        }
        due("256 and a letter", x.write(256 + 'f'), BAD);
        due("65536 and a letter", x.write(65536 + 'f'), BAD);
        CHECK.sentence("THE TEXT is empty: how long it was.");
        due("wipe", x.wipe(), 95);
        due("wipe of the empty text", x.wipe(), 0);
        due("letters", x.count(11), 0);
    }

    private static void oneOrTwoFigures() {
        CHECK.sentence("numbers (one or two figures)");
        fault("p;", 0);
        fault("p,1;", 0);
        fault("p1,;", 0);
        fault("p1,1;", NONE);
        fault("p01,01;", NONE);
        fault("p00,00;", NONE);
        fault("p001,1;", 0);
        fault("p1,001;", 0);
        fault("p400,1;", 0);
        fault("f008;", 0);
        fault("f08;d07;", NONE);
        fault("p1/,1;", 0);
        fault("p/,1;", 0);
        fault("p1:,1;", 0);
        fault("p:,1;", 0);
        fault("p-1,1;", 0);
        fault("p+1,1;", 0);
        CarvedWeeks x = Check.laid("f02;p09,08;s06,09,03;b00,06,07;");
        due("nought and a figure: hours", x.person(0, 0), 9);
        due("nought and a figure: lies", x.person(0, 1), 8);
        due("nought and a figure: room", x.stone(0, 0), 6);
        due("nought and a figure: facts", x.count(0), 2);
        CarvedWeeks y = Check.laid("p12,3;s1,1,0;");
        due("the first figure is the tens", y.person(0, 0), 12);
    }

    private static void partedAndEnded() {
        CHECK.sentence("parted by , and a ; behind the last one");
        String[] faulty = {"p1 ,1;", "p1, 1;", "p1.1;", "p1;1;", "p1,,1;", "p11;", "p1,1", "p1,1,", "p1,1,;", "p1,1 ;",
            "p1,1,1;", "s1,1;", "s1,1,1,1;", "b0,1;", "i1;", "i1,1,1;", "d1,1;", "d;", "f1,1;", "f;", "f1", "f", "s1,1,1",
            "p1", "p1,", "p1,1."};
        for (String text : faulty) {
            fault(text, 0);
            fault("d0;" + text, 3);
        }
        fault("d0;;", 3);
        fault("d0; ", 3);
        fault("d0;d0;d", 6);
        fault(";d0;", 0);
    }

    private static void letterOfAnItem() {
        CHECK.sentence("ITEMS one behind the other, each a letter, then numbers");
        for (char letter = ' '; letter <= '~'; letter++) {
            boolean ofOne = letter == 'f' || letter == 'd';
            boolean ofTwo = letter == 'i' || letter == 'p';
            boolean ofThree = letter == 's' || letter == 'b';
            fault(letter + "1;", ofOne ? NONE : 0);
            fault(letter + "1,1;", ofTwo ? NONE : 0);
            fault("p1,1;" + letter + "0,1;", ofTwo ? NONE : 5);
            fault("p1,1;" + letter + "0,1,1;", letter == 'b' ? NONE : 5);
            fault("p1,1;" + letter + "1,1,1;", letter == 's' ? NONE : 5);
            fault("p1,1;p1,1;" + letter + "1,1,1;", ofThree ? NONE : 10);
        }
        fault("1;", 0);
        fault("1,1;", 0);
    }

    private static void factsOneToEight() {
        CHECK.sentence("there are N FACTS, 0 to N less 1 (1 to 8;");
        numbers("f", 1, 8, ";");
        for (int n = 1; n <= 8; n++) {
            CarvedWeeks x = Check.laid("f" + n + ";d" + (n - 1) + ";" + SMALLEST);
            due("facts of f" + n, x.count(0), n);
            due("worlds of f" + n, x.count(5), 1 << n);
            due("the last fact is so", x.count(6), 1 << n - 1);
            due("a set of all", x.deed((1 << n) - 1), n - 1);
            due("a set of one more", x.deed(1 << n), BAD);
            due("the last fact", x.carve(0, 0, n - 1, true), NO);
            due("one more fact", x.carve(0, 0, n, true), BAD);
            due("the last saying", x.hands(2 * n - 1), 0);
            due("one more saying", x.hands(2 * n), BAD);
        }
    }

    private static void factsFourWithout() {
        CHECK.sentence("4 without");
        due("facts", Check.laid(SMALLEST).count(0), 4);
        due("facts of a text behind one of eight", afterEight().count(0), 4);
        fault("d3;", NONE);
        fault("d4;", 0);
        fault("i7,7;", NONE);
        fault("i8,7;", 0);
        fault("i7,8;", 0);
    }

    private static CarvedWeeks afterEight() {
        CarvedWeeks x = Check.laid("f8;d7;" + SMALLEST);
        x.wipe();
        Check.type(x, SMALLEST);
        x.lay();
        return x;
    }

    private static void factsAheadOfAll() {
        CHECK.sentence("no other ITEM ahead of it but f");
        for (String item : new String[] {"i0,0;", "d0;", "p1,1;", "s1,1,1;", "p1,1;b0,1,1;"}) {
            fault(item + "f4;", item.length());
            fault("f4;" + item, NONE);
            fault("f4;" + item + "f4;", 3 + item.length());
            fault("f4;f4;" + item, NONE);
        }
    }

    private static void factsToldAgain() {
        CHECK.sentence("there are N FACTS");
        due("the last f tells", Check.laid("f8;f3;" + SMALLEST).count(0), 3);
        due("more than ahead", Check.laid("f3;f8;" + SMALLEST).count(0), 8);
        fault("f8;f3;d3;", 6);
        fault("f3;f8;d3;", NONE);
        fault("f3;f9;", 3);
        fault("f3;f0;d0;", 3);
    }

    private static void lawSayings() {
        CHECK.sentence("A, B: SAYINGS, 2 times a FACT, and 1, if it is that it is not so");
        for (int n = 1; n <= 8; n++) {
            String ahead = "f" + n + ";";
            numbers(ahead + "i", 0, 2 * n - 1, ",0;");
            numbers(ahead + "i0,", 0, 2 * n - 1, ";");
        }
        CarvedWeeks x = Check.laid("f8;d7;i15,0;i0,15;" + SMALLEST);
        due("A of the first", x.law(0, 0), 15);
        due("B of the first", x.law(0, 1), 0);
        due("A of the second", x.law(1, 0), 0);
        due("B of the second", x.law(1, 1), 15);
    }

    private static void lawsAtMost() {
        CHECK.sentence("10 at most");
        fault("i0,0;".repeat(10), NONE);
        fault("i0,0;".repeat(11), 50);
        fault("i0,0;".repeat(10) + "d0;", NONE);
        CarvedWeeks x = Check.laid("i0,0;".repeat(9) + "i2,4;" + SMALLEST);
        due("laws", x.count(1), 10);
        due("the tenth", x.law(9, 0), 2);
        due("it holds: worlds", x.count(5), 12);
        due("an eleventh", x.law(10, 0), BAD);
        CarvedWeeks none = Check.laid(SMALLEST);
        due("no law at all", none.count(1), 0);
        due("law(0, 0) then", none.law(0, 0), BAD);
    }

    private static void factsAtFirst() {
        CHECK.sentence("FACT F is so at first (the same again as well)");
        for (int n = 1; n <= 8; n++) {
            numbers("f" + n + ";d", 0, n - 1, ";");
        }
        CarvedWeeks x = Check.laid("f8;d7;d0;d7;d7;" + SMALLEST);
        due("told thrice", x.count(6), 129);
        due("none told", Check.laid("f8;" + SMALLEST).count(6), 0);
        due("all told", Check.laid("f8;d0;d1;d2;d3;d4;d5;d6;d7;" + SMALLEST).count(6), 255);
    }

    private static void personEdges() {
        CHECK.sentence("a PERSON with H (0 to 40) hours a week, who lies by L (0 to 9) of ten");
        numbers("p", 0, 40, ",0;");
        numbers("p0,", 0, 9, ";");
        CarvedWeeks x = Check.laid("p40,9;p0,0;s1,1,0;");
        due("hours of the first", x.person(0, 0), 40);
        due("lies of the first", x.person(0, 1), 9);
        due("hours of the second", x.person(1, 0), 0);
        due("lies of the second", x.person(1, 1), 0);
        due("hours left of none", x.person(1, 2), 0);
    }

    private static void personsAtMost() {
        CHECK.sentence("5 at most, 0, 1, ..");
        fault("p1,1;".repeat(5), NONE);
        fault("p1,1;".repeat(6), 25);
        fault("p1,1;".repeat(5) + "d0;p1,1;", 28);
        CarvedWeeks x = Check.laid("s1,1,0;p1,0;p2,0;p3,0;p4,0;p5,0;");
        for (int i = 0; i < 5; i++) {
            due("person " + i, x.person(i, 0), i + 1);
            due("hours left of person " + i, x.person(i, 2), i + 1);
        }
        due("a sixth", x.person(5, 0), BAD);
        due("persons", x.count(2), 5);
        due("the last one cuts", x.carve(4, 0, 0, true), 0);
    }

    private static void stoneEdges() {
        CHECK.sentence("a STONE with room for R (1 to 6) MARKS, of HARDNESS H (1 to 9), of KIND K");
        numbers("s", 1, 6, ",1,0;");
        numbers("s1,", 1, 9, ",0;");
        numbers("s1,1,", 0, 3, ";");
        CarvedWeeks x = Check.laid("p40,0;s6,9,3;s1,1,0;");
        int[] large = {6, 9, 3, 6};
        int[] small = {1, 1, 0, 1};
        for (int what = 0; what < 4; what++) {
            due("stone(0, " + what + ")", x.stone(0, what), large[what]);
            due("stone(1, " + what + ")", x.stone(1, what), small[what]);
        }
    }

    private static void stonesAtMost() {
        CHECK.sentence("5 at most, 0, 1, ..");
        fault("s1,1,1;".repeat(5), NONE);
        fault("s1,1,1;".repeat(6), 35);
        CarvedWeeks x = Check.laid("p1,0;s1,1,0;s2,1,0;s3,1,0;s4,1,0;s5,1,0;");
        for (int s = 0; s < 5; s++) {
            due("stone " + s, x.stone(s, 0), s + 1);
        }
        due("a sixth", x.stone(5, 0), BAD);
        due("stones", x.count(3), 5);
        due("a mark at the last one", x.carve(0, 4, 0, true), 0);
        due("its room", x.stone(4, 3), 4);
    }

    private static void bidEdges() {
        CHECK.sentence("PERSON P (told ahead) bids C (0 to 99) for each of N (1 to 6) rooms");
        numbers("p1,1;b0,", 1, 6, ",0;");
        numbers("p1,1;b0,1,", 0, 99, ";");
        fault("p1,1;b0,1,100;", 5);
        CarvedWeeks x = Check.laid(SMALLEST + "b0,6,99;b0,1,0;");
        due("the most is wanted", x.sale(12, 0), 6);
        due("the least is wanted", x.sale(12, 1), 1);
        due("the most is bid", x.sale(5, -1), 99);
    }

    private static void bidsOfPersonsToldAhead() {
        CHECK.sentence("PERSON P (told ahead)");
        fault("b0,1,1;", 0);
        fault("b0,1,1;p1,1;", 0);
        fault("s1,1,1;b0,1,1;", 7);
        for (int persons = 1; persons <= 5; persons++) {
            numbers("p1,1;".repeat(persons) + "b", 0, persons - 1, ",1,1;");
        }
        fault("p1,1;b1,1,1;p1,1;", 5);
        fault("p1,1;p1,1;b1,1,1;b0,1,1;", NONE);
    }

    private static void bidsAtMost() {
        CHECK.sentence("6 at most, 0, 1, ..");
        fault("p1,1;" + "b0,1,1;".repeat(6), NONE);
        fault("p1,1;" + "b0,1,1;".repeat(7), 47);
        CarvedWeeks x = Check.laid(SMALLEST + "b0,1,1;b0,2,1;b0,3,1;b0,4,1;b0,5,1;b0,6,9;");
        due("bids", x.count(4), 6);
        due("the sixth", x.sale(12, 5), 6);
        due("a seventh", x.sale(12, 6), BAD);
    }

    private static void firstFault() {
        CHECK.sentence("FAULT: the place of the first letter of the first ITEM that is not so.");
        fault("", NONE);
        fault("x", 0);
        fault("f9;f9;", 0);
        fault("f8;f9;f9;", 3);
        fault("p1,1;s1,1,9;p99,1;", 5);
        fault("d0;d1;d9;d8;", 6);
        fault("i0,0;p1,1;s1,1,1;b0,1,1;d0;x", 27);
        CarvedWeeks x = new CarvedWeeks();
        Check.type(x, "d0;d");
        due("an open item", x.fault(), 3);
        Check.type(x, "0;");
        due("once it is ended", x.fault(), NONE);
        Check.type(x, "d9;d0;");
        due("a fault stays", x.fault(), 6);
        due("and again", x.fault(), 6);
        x.wipe();
        due("in an empty text there is none", x.fault(), NONE);
    }

    private static void personAndStoneAtLeast() {
        CHECK.sentence("LAID is a TEXT without FAULT, of a PERSON and a STONE at least");
        String[] texts = {"", "f3;", "p1,1;", "s1,1,1;", "p1,1;p1,1;p1,1;", "s1,1,1;s1,1,1;", "p1,1;b0,1,1;"};
        for (String text : texts) {
            CarvedWeeks x = new CarvedWeeks();
            Check.type(x, text);
            due("no fault in " + text, x.fault(), NONE);
            due("lay of " + text, x.lay(), NO);
            due("persons as they were", x.count(2), 2);
        }
        due("one of each", Check.laid(SMALLEST).count(5), 16);
        CarvedWeeks faulty = new CarvedWeeks();
        Check.type(faulty, SMALLEST + "f4;");
        due("with a fault", faulty.lay(), NO);
        due("facts as they were", faulty.count(0), 3);
    }

    private static void layOf(String laws, int want) {
        CarvedWeeks x = new CarvedWeeks();
        Check.type(x, laws + SMALLEST);
        due("lay of " + laws, x.lay(), want);
        due("facts behind it", x.count(0), want == NO ? 3 : 2);
    }

    private static void factsAtFirstAreAWorld() {
        CHECK.sentence("whose FACTS at first are a WORLD (NO else");
        layOf("f2;i0,2;", 3);
        layOf("f2;i0,2;d0;", NO);
        layOf("f2;i0,2;d0;d1;", 3);
        layOf("f2;i0,2;d1;", 3);
        layOf("f2;d0;i0,2;", NO);
        layOf("f2;i1,0;", NO);
        layOf("f2;i1,0;d0;", 2);
        layOf("f2;i0,1;d0;", NO);
        layOf("f2;i0,1;i1,0;", NO);
        layOf("f2;i0,1;i1,0;d0;", NO);
        layOf("f2;i0,1;i2,3;", 1);
    }

    private static void atFirst() {
        CHECK.sentence("at first f3;i0,2;i4,1;d0;d1;p20,1;p9,5;s3,4,0;s2,2,1;");
        CarvedWeeks x = new CarvedWeeks();
        CarvedWeeks told = Check.laid("f3;i0,2;i4,1;d0;d1;p20,1;p9,5;s3,4,0;s2,2,1;");
        told.wipe();
        CHECK.alike("a new object's town", Sight.ofTown(x), Sight.ofTown(told));
        CHECK.alike("a new object", Sight.through(x), Sight.through(told));
        due("its text is empty", new CarvedWeeks().wipe(), 0);
        due("its text has no fault", new CarvedWeeks().fault(), NONE);
        due("nor can it be laid", new CarvedWeeks().lay(), NO);
        due("its first letter", new CarvedWeeks().write('f'), 1);
    }

    private static void layBeginsAnew() {
        CHECK.sentence("LAID: how many WORLDS; week 0, no MARKS, nothing UNDONE, KEPT.");
        String text = "f2;i0,2;d1;p9,0;s2,2,0;b0,1,1;";
        CarvedWeeks x = Check.laid(text);
        x.carve(0, 0, 0, true);
        x.keep();
        x.deed(3);
        x.bell();
        x.keep();
        x.carve(0, 0, 0, true);
        due("lay", x.lay(), 3);
        CHECK.alike("it begins anew", Sight.through(x), Sight.through(Check.laid(text)));
        CarvedWeeks y = Check.laid(text);
        y.keep();
        y.lay();
        due("keep anew", y.keep(), 1);
        due("keep a second", y.keep(), 2);
        due("the text stays", y.wipe(), text.length());
    }

    private static void textAndTownAreTwo() {
        CHECK.sentence("THE TEXT is empty: how long it was.");
        CarvedWeeks x = Check.laid("f2;d1;p9,0;s2,2,0;");
        x.carve(0, 0, 0, true);
        String town = Sight.ofTown(x);
        x.wipe();
        CHECK.alike("behind wipe the town stays", Sight.ofTown(x), town);
        Check.type(x, "f8;p1,1;p1,1;s3,3,3;b2,1,1;i0,2;");
        due("a fault looked for", x.fault(), 20);
        CHECK.alike("behind fault, too", Sight.ofTown(x), town);
        due("lay refused", x.lay(), NO);
        CHECK.alike("behind a lay that is refused, too", Sight.ofTown(x), town);
        due("the mark stays", x.mark(0, 0), 1);
        due("what can be undone stays", x.undo(), 0);
    }

    private static void textToldOften() {
        CHECK.sentence("10 at most .. 5 at most .. 5 at most .. 6 at most");
        String text = "f8;" + "i0,0;".repeat(10) + "d7;" + "p1,1;".repeat(5) + "s1,1,1;".repeat(5) + "b0,1,1;".repeat(6);
        CarvedWeeks x = new CarvedWeeks();
        Check.type(x, text);
        int[] want = {8, 10, 5, 5, 6, 256, 128};
        for (int round = 0; round < 4; round++) {
            due("fault, round " + round, x.fault(), NONE);
            due("fault again, round " + round, x.fault(), NONE);
            due("lay, round " + round, x.lay(), 256);
            for (int what = 0; what < want.length; what++) {
                due("count(" + what + "), round " + round, x.count(what), want[what]);
            }
        }
        x.wipe();
        Check.type(x, SMALLEST);
        due("lay of less", x.lay(), 16);
        due("what the last text told is forgotten: laws", x.count(1), 0);
        due("persons", x.count(2), 1);
        due("stones", x.count(3), 1);
        due("bids", x.count(4), 0);
        due("facts at first", x.count(6), 0);
    }

    /** The laws from i0,0 to i3,3 one by one, each with the worlds that it leaves of two facts. */
    private static void worldsOfLaws() {
        CHECK.sentence("a set of FACTS (bits) that are so, others not, by which each LAW holds: A is not so, or B is.");
        int[][] left = {{0, 1, 2, 3}, {0, 2}, {0, 2, 3}, {0, 1, 2}, {1, 3}, {0, 1, 2, 3}, {1, 2, 3}, {0, 1, 3},
            {0, 1, 3}, {0, 1, 2}, {0, 1, 2, 3}, {0, 1}, {1, 2, 3}, {0, 2, 3}, {2, 3}, {0, 1, 2, 3}};
        for (int law = 0; law < 16; law++) {
            int[] worlds = left[law];
            String first = (worlds[0] & 1) == 1 ? "d0;" : worlds[0] == 2 ? "d1;" : "";
            CarvedWeeks x = Check.laid("f2;i" + lawOf(law) + ";" + first + SMALLEST);
            due("worlds by i" + lawOf(law), x.count(5), worlds.length);
            for (int k = 0; k < worlds.length; k++) {
                due("world " + k + " by i" + lawOf(law), x.world(k), worlds[k]);
            }
            due("none behind the last", x.world(worlds.length), NONE);
        }
    }

    private static String lawOf(int number) {
        return number / 4 + "," + number % 4;
    }

    private static void worldsLowestFirst() {
        CHECK.sentence("WORLD number k, as bits, the lowest first.");
        CarvedWeeks x = Check.laid("f8;" + SMALLEST);
        for (int k = 0; k < 256; k++) {
            due("world(" + k + ")", x.world(k), k);
        }
        due("world(256)", x.world(256), NONE);
        due("lay of none but one", Check.laid("f1;i1,0;d0;" + SMALLEST).world(0), 1);
        due("one alone", Check.laid("f1;i1,0;d0;" + SMALLEST).world(1), NONE);
        due("world(-1)", x.world(-1), BAD);
    }

    private static void fiveHundredAndTwelveCalls() {
        CHECK.sentence("An object is used for at most 512 calls after it has been made");
        CarvedWeeks x = new CarvedWeeks();
        for (int k = 1; k <= 511; k++) {
            due("call " + k, x.bell(), 0);
        }
        due("call 512", x.count(8), 511);
    }
}
