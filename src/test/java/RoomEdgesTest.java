import java.math.BigInteger;

/** Promises 23 to 30 and 33 at their edges: each method is of one sentence of the document that names a boundary. */
public final class RoomEdgesTest {
    private static final int BAD = -1, NONE = -4;
    private static final Check CHECK = new Check("RoomEdgesTest");

    public static void main(String[] args) {
        clashNone();
        clashFewest();
        clashOfTwelve();
        standOfNone();
        standOfSeveral();
        standOfTwelve();
        wasBesidesWhatIs();
        wasOfEight();
        missedNone();
        missedLeast();
        missedOfTwelve();
        saleOfOneToTwelve();
        salePrice();
        saleLowerBidFirst();
        worthFromAllToNone();
        twoUnlike();
        twoThatDisagree();
        yearDraws();
        yearWorlds();
        yearCuts();
        yearLowestStone();
        yearFewerThanTwelve();
        yearBells();
        yearFromNowOn();
        counts();
        CHECK.end();
    }

    private static void due(String call, long got, long want) {
        CHECK.due(call, got, want);
    }

    private static CarvedWeeks withMarks(String text, int... sayings) {
        CarvedWeeks x = Check.laid(text);
        for (int m = 0; m < sayings.length; m++) {
            boolean isSo = (x.count(6) >> sayings[m] / 2 & 1) == 1;
            x.carve(0, m / 6, sayings[m] / 2, isSo == (sayings[m] % 2 == 0));
            due("the test's own mark " + m, x.mark(m, 0), sayings[m]);
        }
        return x;
    }

    private static void clashNone() {
        CHECK.sentence("of sets of MARKS (bits) that are together so in no WORLD that of fewest, .. none.");
        due("no marks", Check.laid("f1;p9,0;s1,1,0;").clash(), NONE);
        due("one", withMarks("f1;p9,0;s6,1,0;", 0).clash(), NONE);
        due("the same twelve times", withMarks("f1;p40,0;s6,1,0;s6,1,0;", 0, 0, 0, 0, 0, 0, 0, 0, 0, 0, 0, 0).clash(), NONE);
        due("lies that are so in some WORLD", withMarks("f2;i0,2;p40,0;s6,1,0;", 0, 2).clash(), NONE);
    }

    private static void clashFewest() {
        CHECK.sentence("CLASH: .. that of fewest, of several the lowest");
        due("one alone, against a law", withMarks("f1;i0,1;p9,0;s6,1,0;", 1, 1, 0).clash(), 4);
        due("two of two", withMarks("f1;p9,0;s6,1,0;", 0, 1).clash(), 3);
        due("two by a law", withMarks("f3;i0,2;p9,0;s6,1,0;", 4, 0, 3).clash(), 6);
        due("three by laws, no two", withMarks("f3;i0,2;i2,4;p40,0;s6,1,0;", 0, 5, 2).clash(), 3);
        CarvedWeeks three = withMarks("f3;i0,3;i4,3;p9,0;s6,1,0;", 1, 5, 2);
        due("three that are together so", three.clash(), NONE);
        due("the lowest of several twos", withMarks("f2;p9,0;s6,1,0;", 0, 2, 3, 1).clash(), 6);
        due("an even lower one", withMarks("f2;p9,0;s6,1,0;", 0, 1, 2, 3).clash(), 3);
        due("fewer, though higher", withMarks("f2;i2,3;p9,0;s6,1,0;", 0, 1, 2).clash(), 4);
    }

    private static void clashOfTwelve() {
        CHECK.sentence("CLASH, as bits. NONE.");
        String town = "f8;p40,0;s6,1,0;s6,1,0;";
        due("the first and the last", withMarks(town, 0, 2, 4, 6, 8, 10, 12, 14, 14, 14, 14, 1).clash(), 1 | 1 << 11);
        due("the last two", withMarks(town, 0, 2, 4, 6, 8, 10, 12, 0, 0, 0, 14, 15).clash(), 3 << 10);
        due("the last alone", withMarks("f8;i14,15;p40,0;s6,1,0;s6,1,0;", 0, 2, 4, 6, 8, 10, 12, 0, 0, 0, 0, 14).clash(),
                1 << 11);
        String chain = "f8;i0,2;i2,4;i4,6;i6,8;i8,10;i10,12;i12,14;p40,0;s6,1,0;s6,1,0;";
        due("by a chain of laws", withMarks(chain, 14, 12, 10, 8, 6, 4, 2, 0, 15).clash(), 1 | 1 << 8);
    }

    private static void dueStand(String when, CarvedWeeks x, int most, int sets) {
        due(when + ": stand(0)", x.stand(0), most);
        due(when + ": stand(1)", x.stand(1), sets);
    }

    private static void standOfNone() {
        CHECK.sentence("STAND: how many MARKS at most are together so in some WORLD; how many sets of so many are.");
        dueStand("no marks: the empty set alone", Check.laid("f3;p9,0;s6,1,0;"), 0, 1);
        dueStand("a mark that is so in a set of no FACTS, which is no WORLD", withMarks("f1;i1,0;d0;p9,0;s6,1,0;", 1), 0, 1);
        dueStand("such a set does not count", withMarks("f1;i1,0;d0;p9,0;s6,1,0;", 1, 0), 1, 1);
        dueStand("marks that are so in no WORLD", withMarks("f1;i0,1;p9,0;s6,1,0;", 0, 0), 0, 1);
    }

    private static void standOfSeveral() {
        CHECK.sentence("how many sets of so many are");
        dueStand("one", withMarks("f3;p9,0;s6,1,0;", 0), 1, 1);
        dueStand("one of two", withMarks("f3;p9,0;s6,1,0;", 0, 1), 1, 2);
        dueStand("three against two", withMarks("f3;p9,0;s6,1,0;", 0, 1, 0, 1, 0), 3, 1);
        dueStand("two of each of two facts", withMarks("f2;p9,0;s6,1,0;", 0, 1, 2, 3), 2, 4);
        dueStand("together so in the lowest WORLD alone", withMarks("f2;p9,0;s6,1,0;", 1, 3), 2, 1);
        dueStand("together so in the highest WORLD alone", withMarks("f2;p9,0;s6,1,0;", 0, 2), 2, 1);
        dueStand("a law leaves three", withMarks("f2;i0,2;p9,0;s6,1,0;", 0, 1, 2, 3), 2, 3);
        dueStand("one is so in no WORLD", withMarks("f2;i0,1;p9,0;s6,1,0;", 0, 2, 3), 1, 2);
    }

    private static void standOfTwelve() {
        CHECK.sentence("12 MARKS at most");
        String town = "f8;p40,0;s6,1,0;s6,1,0;";
        dueStand("all", withMarks(town, 0, 2, 4, 6, 8, 10, 12, 14, 14, 14, 14, 14), 12, 1);
        dueStand("six of twelve", withMarks(town, 0, 1, 2, 3, 4, 5, 6, 7, 8, 9, 10, 11), 6, 64);
        dueStand("eleven", withMarks(town, 0, 0, 0, 0, 0, 0, 0, 0, 0, 0, 0, 1), 11, 1);
    }

    private static void wasBesidesWhatIs() {
        CHECK.sentence("WAS of a SAYING: the SAYINGS (bits) by each of which, READ besides what is (RULE 1), it would be KNOWN.");
        CarvedWeeks none = Check.laid("f2;p9,0;s6,1,0;");
        for (int saying = 0; saying < 4; saying++) {
            due("by itself alone: was(" + saying + ")", none.was(saying), 1 << saying);
        }
        CarvedWeeks known = Check.laid("f2;i0,1;p9,0;s6,1,0;");
        due("KNOWN by a law: by all that do not disagree", known.was(1), 14);
        due("what cannot be", known.was(0), 0);
        CarvedWeeks told = withMarks("f2;i0,2;p9,0;s6,1,0;", 0);
        due("KNOWN by what is", told.was(2), 5);
        due("it itself", told.was(0), 5);
        due("what it is against", told.was(1), 0);
        CarvedWeeks against = withMarks("f2;p9,0;s6,1,0;", 0, 1);
        for (int saying = 0; saying < 4; saying++) {
            due("of marks that disagree: was(" + saying + ")", against.was(saying), 0);
        }
    }

    private static void wasOfEight() {
        CHECK.sentence("WAS, as bits. BAD.");
        CarvedWeeks x = Check.laid("f8;p9,0;s6,1,0;");
        for (int saying = 0; saying < 16; saying++) {
            due("was(" + saying + ")", x.was(saying), 1 << saying);
        }
        due("was(16)", x.was(16), BAD);
        due("was(-1)", x.was(-1), BAD);
        due("of a chain, the last", Check.laid("f8;i0,2;i2,4;i4,6;i6,8;i8,10;i10,12;i12,14;p9,0;s6,1,0;").was(14), 0x5555);
        due("of a chain, the first", Check.laid("f8;i0,2;i2,4;i4,6;i6,8;i8,10;i10,12;i12,14;p9,0;s6,1,0;").was(1), 0xAAAA);
        due("of what a law tells", Check.laid("f8;i14,15;p9,0;s6,1,0;").was(15), 0xBFFF);
    }

    private static void missedNone() {
        CHECK.sentence("none (there are none)");
        CarvedWeeks x = Check.laid("f2;p9,0;s6,1,0;");
        due("no marks", x.missed(), NONE);
        x.carve(0, 0, 0, false);
        due("one, be it a lie", x.missed(), 0);
        x.chisel(0, 0);
        due("none again", x.missed(), NONE);
    }

    private static void missedLeast() {
        CHECK.sentence("MISSED: the MARK without which RIGHT (RULE 1) is least, of several the lowest");
        due("of two alike", withMarks("f2;p9,0;s6,1,0;", 1, 3).missed(), 0);
        due("the one by which two are RIGHT", withMarks("f3;i0,2;p9,0;s6,1,0;", 5, 3).missed(), 1);
        due("one that is told twice is not missed", withMarks("f2;p9,0;s6,1,0;", 1, 1, 3).missed(), 2);
        due("a lie is not missed", withMarks("f2;p9,0;s6,1,0;", 0, 3).missed(), 1);
        due("without another they disagree", withMarks("f2;p9,0;s6,1,0;", 0, 1, 3).missed(), 2);
        due("without any they disagree", withMarks("f2;p9,0;s6,1,0;", 0, 1, 0, 1).missed(), 0);
        due("without any all of eight are RIGHT",
                withMarks("f8;i0,2;i2,4;i4,6;i6,8;i8,10;i10,12;i12,14;p9,0;s6,1,0;", 15, 15).missed(), 0);
        due("without the last alone", withMarks("f2;p9,0;s6,1,0;", 2, 2, 1).missed(), 2);
    }

    private static void missedOfTwelve() {
        CHECK.sentence("12 MARKS at most");
        due("the twelfth", withMarks("f8;p40,0;s6,1,0;s6,1,0;", 1, 1, 3, 3, 5, 5, 7, 7, 9, 9, 9, 15).missed(), 11);
    }

    private static void dueSale(CarvedWeeks x, int n, int... want) {
        for (int b = -1; b < want.length - 1; b++) {
            due("sale(" + n + ", " + b + ")", x.sale(n, b), want[b + 1]);
        }
    }

    private static void saleOfOneToTwelve() {
        CHECK.sentence("SALE of n (1 to 12) rooms: .. each gets what it wants, or what is left.");
        CarvedWeeks x = Check.laid("p1,1;s1,1,1;b0,6,1;b0,6,2;b0,6,3;b0,6,4;b0,6,5;b0,6,6;");
        dueSale(x, 1, 6, 0, 0, 0, 0, 0, 1);
        dueSale(x, 6, 5, 0, 0, 0, 0, 0, 6);
        dueSale(x, 7, 5, 0, 0, 0, 0, 1, 6);
        dueSale(x, 12, 4, 0, 0, 0, 0, 6, 6);
        due("sale(0, -1)", x.sale(0, -1), BAD);
        due("sale(13, -1)", x.sale(13, -1), BAD);
        due("sale(12, 6)", x.sale(12, 6), BAD);
        due("sale(12, -2)", x.sale(12, -2), BAD);
        CarvedWeeks none = Check.laid("p1,1;s1,1,1;");
        due("no bids", none.sale(12, -1), 0);
        due("no bid 0", none.sale(12, 0), BAD);
    }

    private static void salePrice() {
        CHECK.sentence("PRICE: the highest C of a bid that did not get all it wants (0: there is none).");
        CarvedWeeks x = Check.laid("p1,1;s1,1,1;b0,2,3;b0,2,9;b0,2,6;");
        dueSale(x, 6, 0, 2, 2, 2);
        dueSale(x, 5, 3, 1, 2, 2);
        dueSale(x, 4, 3, 0, 2, 2);
        dueSale(x, 3, 6, 0, 2, 1);
        dueSale(x, 2, 6, 0, 2, 0);
        dueSale(x, 1, 9, 0, 1, 0);
        CarvedWeeks free = Check.laid("p1,1;s1,1,1;b0,2,0;");
        dueSale(free, 1, 0, 1);
        dueSale(free, 2, 0, 2);
        CarvedWeeks dear = Check.laid("p1,1;s1,1,1;b0,2,99;");
        dueSale(dear, 1, 99, 1);
        dueSale(dear, 2, 0, 2);
    }

    private static void saleLowerBidFirst() {
        CHECK.sentence("those of higher C come first, of several the lower bid");
        CarvedWeeks x = Check.laid("p1,1;s1,1,1;b0,1,5;b0,2,5;b0,3,5;b0,4,5;b0,5,5;b0,6,5;");
        dueSale(x, 1, 5, 1, 0, 0, 0, 0, 0);
        dueSale(x, 3, 5, 1, 2, 0, 0, 0, 0);
        dueSale(x, 4, 5, 1, 2, 1, 0, 0, 0);
        dueSale(x, 12, 5, 1, 2, 3, 4, 2, 0);
        CarvedWeeks last = Check.laid("p1,1;s1,1,1;b0,1,5;b0,2,5;b0,3,6;");
        dueSale(last, 4, 5, 1, 0, 3);
    }

    private static void worthFromAllToNone() {
        CHECK.sentence("WORTH of one who remembers: how many FACTS are not RIGHT now (RULE 1).");
        due("all", Check.laid("f8;p9,0;s6,1,0;").worth(), 8);
        due("none", withMarks("f1;p9,0;s6,1,0;", 1).worth(), 0);
        due("a WRONG one is not RIGHT", withMarks("f2;p9,0;s6,1,0;", 0, 3).worth(), 1);
        due("where marks disagree all", withMarks("f2;p9,0;s6,1,0;", 0, 1, 3).worth(), 2);
        due("by one hand", withMarks("f2;i1,3;p9,0;s6,1,0;", 1).worth(), 0);
        due("where laws tell all none", Check.laid("f1;i0,1;p9,0;s6,1,0;").worth(), 0);
    }

    private static void twoUnlike() {
        CHECK.sentence("the true SAYINGS of FACTS f and g (unlike)");
        CarvedWeeks x = Check.laid("f8;d7;p9,0;s6,1,0;");
        for (int f = 0; f < 8; f++) {
            for (int g = 0; g < 8; g++) {
                due("two(" + f + ", " + g + ")", x.two(f, g), f == g ? BAD : 2);
            }
        }
        due("two(8, 0)", x.two(8, 0), BAD);
        due("two(0, 8)", x.two(0, 8), BAD);
        due("two(-1, 8)", x.two(-1, 8), BAD);
        CarvedWeeks one = Check.laid("f1;p9,0;s6,1,0;");
        due("of one fact there are no two", one.two(0, 0), BAD);
    }

    private static void twoThatDisagree() {
        CHECK.sentence("how many would be RIGHT, were the true SAYINGS of FACTS f and g (unlike) READ besides (RULE 1)");
        CarvedWeeks lied = withMarks("f3;p9,0;s6,1,0;", 0);
        due("against a lie", lied.two(0, 1), 0);
        due("beside it", lied.two(1, 2), 2);
        CarvedWeeks told = withMarks("f3;i4,2;p9,0;s6,1,0;", 1);
        due("besides what is", told.two(1, 2), 3);
        due("what is known already", told.two(0, 2), 2);
        due("by a law", told.two(0, 1), 3);
        told.deed(6);
        due("by the truth of now", told.two(0, 2), 3);
    }

    /** DRAW as the document tells it, in numbers that never wrap around. */
    private static int draw(int z, int k) {
        BigInteger x = BigInteger.valueOf(7919).multiply(BigInteger.valueOf(z))
                .add(BigInteger.valueOf(6151).multiply(BigInteger.valueOf(k))).add(BigInteger.ONE);
        return x.multiply(x).mod(BigInteger.valueOf(65521)).intValueExact();
    }

    private static void yearDraws() {
        CHECK.sentence("DRAW being (x times x) modulo 65521, x 7919 z, 6151 k and 1 together");
        CarvedWeeks[] lied = new CarvedWeeks[8];
        for (int f = 0; f < 8; f++) {
            lied[f] = withMarks("f8;p9,0;s1,1,0;", 2 * f);
        }
        for (int z : new int[] {0, 1, 2, 5, 8, 9, 10, 271, 272, 5000, 9998, 9999}) {
            int[] so = new int[8];
            for (int n = 1; n <= 60; n++) {
                for (int f = 0; f < 8; f++) {
                    so[f] += draw(z, n - 1) % 256 >> f & 1;
                    if (n < 3 || n > 58 || f == n % 8) {
                        due("year(" + z + ", " + n + ", 0), fact " + f, lied[f].year(z, n, 0), so[f]);
                    }
                }
            }
        }
        due("year(-1, 1, 0)", lied[0].year(-1, 1, 0), BAD);
        due("year(10000, 1, 0)", lied[0].year(10000, 1, 0), BAD);
        due("year(0, 0, 0)", lied[0].year(0, 0, 0), BAD);
        due("year(0, 61, 0)", lied[0].year(0, 61, 0), BAD);
    }

    private static void yearWorlds() {
        CHECK.sentence("in week k (0 first) THE TRUTH is the WORLD of number DRAW modulo how many there are (0 the lowest, as bits)");
        String town = "f3;i0,2;i4,1;p9,0;s1,1,0;";
        int[] worlds = {0, 2, 3, 4, 6};
        for (int f = 0; f < 3; f++) {
            CarvedWeeks x = withMarks(town, 2 * f + 1);
            int bells = 0;
            for (int n = 1; n <= 60; n++) {
                int truth = worlds[draw(7, n - 1) % 5];
                boolean wrong = (truth >> f & 1) == 1 || f == 1 && (truth & 1) == 1;
                bells += wrong ? 0 : 1;
                due("year(7, " + n + ", 0), fact " + f, x.year(7, n, 0), bells);
            }
        }
        due("one WORLD alone", Check.laid("f1;i1,0;d0;p9,0;s1,1,0;").year(9999, 60, 0), 60);
    }

    private static void yearCuts() {
        CHECK.sentence("if DRAW by 8, cut, modulo 2 is 0, PERSON .. cuts the true SAYING of FACT ..");
        CarvedWeeks x = Check.laid("f1;p0,0;s6,9,0;s6,9,0;s6,9,0;");
        for (int z : new int[] {0, 1, 9999}) {
            int marks = 0;
            for (int n = 1; n <= 10; n++) {
                marks += draw(z, n - 1) / 8 % 2 == 0 ? 1 : 0;
                due("hours let be: year(" + z + ", " + n + ", 1)", x.year(z, n, 1), marks);
            }
        }
        for (int z = 0; z < 40; z++) {
            int draw = draw(z, 0);
            for (int facts = 1; facts <= 8; facts++) {
                if (draw / 8 % 2 == 0) {
                    dueCut(z, facts, draw / 128 % facts, draw);
                }
            }
        }
    }

    /** A lie of the fact that is cut then disagrees with it, so that nothing is WRONG; of another fact it stays WRONG. */
    private static void dueCut(int z, int facts, int cut, int draw) {
        int truth = draw % (1 << facts);
        for (int f = 0; f < facts; f++) {
            boolean so = (truth >> f & 1) == 1;
            CarvedWeeks x = withMarks("f" + facts + ";p9,0;p9,0;s2,1,0;", so ? 2 * f + 1 : 2 * f);
            due("year(" + z + ", 1, 0) of " + facts + " facts, lie of " + f, x.year(z, 1, 0), f == cut ? 1 : 0);
        }
    }

    private static void yearLowestStone() {
        CHECK.sentence("at the lowest STONE with room, if there is one");
        due("week 0 of z 0 cuts", draw(0, 0) / 8 % 2, 0);
        due("week 1 does not", draw(0, 1) / 8 % 2, 1);
        due("the first of two: it wears off at once", Check.laid("f1;p9,0;s1,1,1;s1,1,0;").year(0, 1, 1), 0);
        due("the first of two: it stays", Check.laid("f1;p9,0;s1,1,0;s1,1,1;").year(0, 1, 1), 1);
        due("the second, for the first is full", withMarks("f1;p9,0;s1,1,0;s1,1,1;", 1).year(0, 1, 1), 1);
        due("the second, where it stays", withMarks("f1;p9,0;s1,1,0;s1,9,3;", 1).year(0, 1, 1), 2);
        due("there is none", withMarks("f1;p9,0;s1,1,0;", 1).year(0, 60, 1), 1);
        CarvedWeeks last = Check.laid("f1;p9,0;s1,1,0;s1,1,0;s1,1,0;s1,1,0;s1,1,0;");
        for (int s = 0; s < 4; s++) {
            last.carve(0, s, 0, true);
        }
        due("only the fifth has room", last.year(0, 1, 1), 5);
        CarvedWeeks freed = Check.laid("f1;p9,0;s1,1,1;");
        int cut = 0;
        for (int n = 1; n <= 60; n++) {
            cut += draw(3, n - 1) / 8 % 2 == 0 ? 1 : 0;
            due("each bell frees the room", freed.year(3, n, 1), 0);
        }
        CHECK.holds("marks were cut in that year", cut > 12);
    }

    private static void yearFewerThanTwelve() {
        CHECK.sentence("and there are fewer than 12 MARKS");
        String town = "f1;i1,0;d0;p40,0;s6,1,0;s6,1,0;s6,1,0;";
        CarvedWeeks eleven = withMarks(town, 0, 0, 0, 0, 0, 0, 0, 0, 0, 0, 0);
        due("a twelfth", eleven.year(0, 1, 1), 12);
        due("no thirteenth", eleven.year(0, 60, 1), 12);
        eleven.carve(0, 2, 0, true);
        due("twelve at first", eleven.year(0, 1, 1), 12);
        due("twelve all the year", eleven.year(9999, 60, 1), 12);
    }

    private static void yearBells() {
        CHECK.sentence("behind how many of these BELLS nothing is WRONG (RULE 1); how many MARKS there are behind the last one");
        CarvedWeeks x = withMarks("f1;p40,0;s2,2,1;", 0);
        int truth0 = draw(0, 0) % 2;
        due("week 0 of z 0: fact 0 is so", truth0, 1);
        due("behind the bell of week 0 it is so", x.year(0, 1, 0), 1);
        due("two marks then", x.year(0, 1, 1), 2);
        due("behind the second bell both have worn off", x.year(0, 2, 1), 0);
        CarvedWeeks at = withMarks("f1;p40,0;s1,1,1;", 1);
        due("a lie that wears off at the very bell is not WRONG behind it", at.year(0, 1, 0), 1);
        due("nor is it there", at.year(0, 1, 1), 0);
        due("no hands needed but one", withMarks("f1;p40,0;s1,1,0;", 1).year(0, 1, 0), 0);
        due("all the year nothing is WRONG", Check.laid("f1;i0,1;p40,0;s1,1,1;").year(9999, 60, 0), 60);
    }

    private static void yearFromNowOn() {
        CHECK.sentence("A YEAR by z (0 to 9999) of n (1 to 60) weeks from now on");
        CarvedWeeks x = Check.laid("f2;i0,2;p9,0;p9,5;s2,3,1;s1,1,2;b0,1,1;");
        x.carve(0, 0, 1, false);
        x.bell();
        x.keep();
        x.carve(1, 1, 0, true);
        String before = Sight.of(x) + Sight.ofTown(x);
        int bells = x.year(9999, 60, 0);
        int marks = x.year(9999, 60, 1);
        due("the same again", x.year(9999, 60, 0), bells);
        due("marks, the same again", x.year(9999, 60, 1), marks);
        CHECK.alike("it changes nothing", Sight.of(x) + Sight.ofTown(x), before);
        due("behind the first bell both are there, and what week 0 cuts", x.year(0, 1, 1), 3);
        due("behind the second only that one: bells heard ahead of the year count", x.year(0, 2, 1), 1);
    }

    private static void counts() {
        CHECK.sentence("How many: 0 FACTS, 1 LAWS, .. 11 letters of THE TEXT. BAD.");
        CarvedWeeks least = Check.laid("f1;p0,0;s1,1,0;");
        int[] few = {1, 0, 1, 1, 0, 2, 0, 0, 0, 0, 0, 15};
        for (int what = 0; what < few.length; what++) {
            due("least: count(" + what + ")", least.count(what), few[what]);
        }
        String full = "f8;" + "i0,0;".repeat(10) + "d0;d7;" + "p1,1;".repeat(4) + "p40,0;" + "s6,1,0;".repeat(5)
                + "b4,6,9;".repeat(6);
        CarvedWeeks most = Check.laid(full);
        for (int m = 0; m < 12; m++) {
            most.carve(4, m / 6, 0, true);
        }
        most.bell();
        most.keep();
        most.keep();
        int[] many = {8, 10, 5, 5, 6, 256, 129, 12, 1, 8, 2, full.length()};
        for (int what = 0; what < many.length; what++) {
            due("most: count(" + what + ")", most.count(what), many[what]);
        }
        due("count(12)", most.count(12), BAD);
        due("count(-1)", most.count(-1), BAD);
    }
}
