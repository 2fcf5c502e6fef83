import java.util.function.Supplier;
import java.util.function.ToLongFunction;

/**
 * Each call that is refused or that has no answer: what it answers, which of several refusals it names, and that
 * nothing is changed by it, neither how the town stands nor what can be undone, taken back or laid.
 */
public final class RefusalsTest {
    private static final int BAD = -1, NO = -2, FULL = -3, NONE = -4;
    private static final int LEAST = Integer.MIN_VALUE, MOST = Integer.MAX_VALUE;
    private static final Check CHECK = new Check("RefusalsTest");

    public static void main(String[] args) {
        numbersOfTowns();
        numbersOfWeeks();
        numbersOfQuestions();
        numbersOfRooms();
        notAsThingsStand();
        layThatIsNot();
        full();
        none();
        ofSeveralTheFirst();
        askingChangesNothing();
        CHECK.end();
    }

    /** Two marks, two persons, one of them without hours, a full stone and one with room; much to undo and two kept. */
    private static CarvedWeeks busy() {
        CarvedWeeks x = Check.laid("f2;i0,2;d1;p9,1;p4,0;s2,2,0;s2,5,1;b1,2,7;");
        x.carve(0, 0, 0, true);
        x.keep();
        x.bell();
        x.deed(3);
        x.carve(1, 0, 1, false);
        x.chisel(1, 0);
        x.carve(0, 0, 1, true);
        x.keep();
        return x;
    }

    /** The same with nothing that could be undone or taken back, for nothing has been done. */
    private static CarvedWeeks idle() {
        return Check.laid("f2;i0,2;p9,1;p4,0;s2,2,0;s2,5,1;");
    }

    private static CarvedWeeks withTwelveMarks() {
        CarvedWeeks x = Check.laid("f2;p30,1;p0,0;s6,1,0;s6,1,0;s2,9,0;");
        for (int m = 0; m < 12; m++) {
            x.carve(0, m / 6, 0, true);
        }
        return x;
    }

    private static CarvedWeeks withText(String text) {
        CarvedWeeks x = busy();
        x.wipe();
        Check.type(x, text);
        return x;
    }

    private static void refused(String name, Supplier<CarvedWeeks> town, ToLongFunction<CarvedWeeks> call, int want) {
        CarvedWeeks asked = town.get();
        CHECK.due(name, call.applyAsLong(asked), want);
        CHECK.alike(name + " changes nothing", Sight.through(asked), Sight.through(town.get()));
    }

    private static void bad(String name, ToLongFunction<CarvedWeeks> call) {
        refused(name, RefusalsTest::busy, call, BAD);
    }

    /** A call of one number: each beside what is told, and the least and the most of all. */
    private interface OfOne {
        long on(CarvedWeeks town, int number);
    }

    private static void badOutside(String name, int first, int last, OfOne call) {
        CHECK.sentence("BAD: a number is none that is told");
        for (int number : new int[] {first - 1, last + 1, LEAST, MOST, first - 256, last + 256}) {
            bad(name + " of " + number, town -> call.on(town, number));
        }
        for (int number : new int[] {first, last}) {
            CHECK.holds(name + " of " + number + " is not BAD", call.on(busy(), number) != BAD);
        }
    }

    private static void numbersOfTowns() {
        badOutside("write", 32, 126, (town, n) -> town.write(n));
        badOutside("law", 0, 0, (town, n) -> town.law(n, 0));
        badOutside("law's what", 0, 1, (town, n) -> town.law(0, n));
        badOutside("person", 0, 1, (town, n) -> town.person(n, 0));
        badOutside("person's what", 0, 2, (town, n) -> town.person(0, n));
        badOutside("stone", 0, 1, (town, n) -> town.stone(n, 0));
        badOutside("stone's what", 0, 3, (town, n) -> town.stone(0, n));
        badOutside("mark", 0, 1, (town, n) -> town.mark(n, 0));
        badOutside("mark's what", 0, 4, (town, n) -> town.mark(0, n));
        CHECK.sentence("NONE; BAD (k below 0).");
        bad("world(-1)", town -> town.world(-1));
        bad("world of the least", town -> town.world(LEAST));
    }

    private static void numbersOfWeeks() {
        badOutside("deed", 0, 3, (town, n) -> town.deed(n));
        badOutside("carve's person", 0, 1, (town, n) -> town.carve(n, 1, 0, true));
        badOutside("carve's stone", 0, 1, (town, n) -> town.carve(0, n, 0, true));
        badOutside("carve's fact", 0, 1, (town, n) -> town.carve(0, 1, n, false));
        badOutside("chisel's person", 0, 1, (town, n) -> town.chisel(n, 1));
        badOutside("chisel's mark", 0, 1, (town, n) -> town.chisel(0, n));
    }

    private static void numbersOfQuestions() {
        badOutside("known's rule", 1, 2, (town, n) -> town.known(n, 0));
        badOutside("known's what", 0, 5, (town, n) -> town.known(1, n));
        badOutside("hands", 0, 3, (town, n) -> town.hands(n));
        badOutside("belief", 0, 1, (town, n) -> town.belief(n, 0));
        badOutside("belief's part", 0, 1, (town, n) -> town.belief(0, n));
        badOutside("least", 0, 3, (town, n) -> town.least(n));
        badOutside("soonest", 0, 3, (town, n) -> town.soonest(n));
        badOutside("lie's person", 0, 1, (town, n) -> town.lie(n, 1, 0));
        badOutside("lie's rule", 1, 2, (town, n) -> town.lie(0, n, 0));
        badOutside("lie's what", 0, 1, (town, n) -> town.lie(0, 1, n));
        badOutside("safe", 1, 2, (town, n) -> town.safe(n));
        badOutside("stand", 0, 1, (town, n) -> town.stand(n));
        badOutside("was", 0, 3, (town, n) -> town.was(n));
    }

    private static void numbersOfRooms() {
        badOutside("sale's rooms", 1, 12, (town, n) -> town.sale(n, -1));
        badOutside("sale's bid", -1, 0, (town, n) -> town.sale(1, n));
        badOutside("two's first", 1, 1, (town, n) -> n == 0 ? BAD : town.two(n, 0));
        badOutside("two's second", 0, 0, (town, n) -> n == 1 ? BAD : town.two(1, n));
        CHECK.sentence("TWO. BAD (alike, too).");
        bad("two(0, 0)", town -> town.two(0, 0));
        bad("two(1, 1)", town -> town.two(1, 1));
        badOutside("year's number", 0, 9999, (town, n) -> town.year(n, 1, 0));
        badOutside("year's weeks", 1, 60, (town, n) -> town.year(0, n, 0));
        badOutside("year's what", 0, 1, (town, n) -> town.year(0, 1, n));
        badOutside("count", 0, 11, (town, n) -> town.count(n));
    }

    private static void notAsThingsStand() {
        CHECK.sentence("BAD; NO: it is no WORLD.");
        refused("deed(1)", RefusalsTest::busy, town -> town.deed(1), NO);
        CHECK.sentence("BAD; NO: hours, room; FULL.");
        refused("carve without hours", RefusalsTest::busy, town -> town.carve(1, 1, 0, true), NO);
        refused("carve without room", RefusalsTest::busy, town -> town.carve(0, 0, 0, true), NO);
        refused("carve without either", RefusalsTest::busy, town -> town.carve(1, 0, 0, true), NO);
        CHECK.sentence("how many are left. BAD; NO: hours.");
        refused("chisel without hours", RefusalsTest::busy, town -> town.chisel(1, 0), NO);
        CHECK.sentence("UNDONE: how many more can be. NO.");
        refused("undo of nothing", RefusalsTest::idle, town -> town.undo(), NO);
        CHECK.sentence("As KEPT last: how many are left; nothing is UNDONE then. NO.");
        refused("back of nothing", RefusalsTest::idle, town -> town.back(), NO);
        refused("back of nothing, with something to undo", RefusalsTest::withTwelveMarks, town -> town.back(), NO);
    }

    private static void layThatIsNot() {
        CHECK.sentence("LAID is a TEXT without FAULT, of a PERSON and a STONE at least, whose FACTS at first are a WORLD"
                + " (NO else");
        String[] texts = {"", "p1,1;", "s1,1,1;", "f2;d0;i0,2;p1,1;s1,1,1;", "p1,1;s1,1,1;f2;", "p1,1;s1,1,1;x",
            "p1,1;s1,1,1;f", "f8;p1,1;s6,1,1;d8;", "f1;i0,1;i1,0;p1,1;s1,1,1;", "f1;d0;i0,1;i1,0;p1,1;s1,1,1;"};
        for (String text : texts) {
            refused("lay of " + text, () -> withText(text), town -> town.lay(), NO);
        }
        CarvedWeeks later = withText("f2;d0;i0,2;p1,1;s1,1,1;");
        CHECK.due("lay", later.lay(), NO);
        Check.type(later, "d1;");
        CHECK.due("lay of the same and what it lacked", later.lay(), 3);
    }

    private static void full() {
        CHECK.sentence("BAD; NO: hours, room; FULL.");
        refused("a thirteenth mark", RefusalsTest::withTwelveMarks, town -> town.carve(0, 2, 0, true), FULL);
        CHECK.sentence("KEPT: how many. FULL.");
        refused("a third that is kept", RefusalsTest::busy, town -> town.keep(), FULL);
        CHECK.sentence("comes behind THE TEXT: how long it is. BAD; FULL.");
        CarvedWeeks long200 = new CarvedWeeks();
        Check.type(long200, "p1,1;s1,1,1;" + "d00;".repeat(47));
        String before = Sight.of(long200);
        CHECK.due("a letter more than 200", long200.write('x'), FULL);
        CHECK.alike("it changes nothing", Sight.of(long200), before);
        CHECK.due("nor what can be laid", long200.lay(), 16);
        CHECK.due("the text stays 200 letters long", long200.wipe(), 200);
    }

    private static void none() {
        CHECK.sentence("WORLD number k, as bits, the lowest first. NONE;");
        refused("world behind the last", RefusalsTest::busy, town -> town.world(3), NONE);
        refused("world of the most", RefusalsTest::busy, town -> town.world(MOST), NONE);
        CHECK.sentence("none (not so much room)");
        Supplier<CarvedWeeks> cramped = () -> Check.laid("f2;p9,1;s1,1,1;");
        refused("soonest without room", cramped, town -> town.soonest(3), NONE);
        CHECK.sentence("none (by none is more WRONG than now)");
        refused("lie of one hand by two", cramped, town -> town.lie(0, 2, 0), NONE);
        refused("how much by it", cramped, town -> town.lie(0, 2, 1), NONE);
        CHECK.sentence("that of fewest, of several the lowest; none.");
        refused("clash of no marks", cramped, town -> town.clash(), NONE);
        CHECK.sentence("of several the lowest; none (there are none).");
        refused("missed of no marks", cramped, town -> town.missed(), NONE);
        CHECK.sentence("FAULT. NONE.");
        refused("fault of none", () -> withText("f2;"), town -> town.fault(), NONE);
        CHECK.sentence("in lowest terms; none (all weigh 0)");
        refused("belief of none", RefusalsTest::withContradiction, town -> town.belief(0, 0), NONE);
        refused("belief of none, below", RefusalsTest::withContradiction, town -> town.belief(1, 1), NONE);
    }

    private static CarvedWeeks withContradiction() {
        CarvedWeeks x = Check.laid("f2;p9,0;s2,1,0;");
        x.carve(0, 0, 0, true);
        x.carve(0, 0, 0, false);
        return x;
    }

    private static void ofSeveralTheFirst() {
        CHECK.sentence("BAD: .. NO: .. NONE: .. FULL. Of several the first; nothing changes then.");
        Supplier<CarvedWeeks> twelve = RefusalsTest::withTwelveMarks;
        refused("BAD ahead of NO and FULL: fact", twelve, town -> town.carve(1, 0, 2, true), BAD);
        refused("BAD ahead of FULL: fact", twelve, town -> town.carve(0, 2, 2, true), BAD);
        refused("BAD ahead of FULL: person", twelve, town -> town.carve(2, 2, 0, true), BAD);
        refused("BAD ahead of FULL: stone", twelve, town -> town.carve(0, 3, 0, true), BAD);
        refused("NO ahead of FULL: room", twelve, town -> town.carve(0, 1, 0, true), NO);
        refused("NO ahead of FULL: hours", twelve, town -> town.carve(1, 2, 0, true), NO);
        refused("BAD ahead of NO: mark", twelve, town -> town.chisel(1, 12), BAD);
        refused("BAD ahead of NO: person", twelve, town -> town.chisel(2, 0), BAD);
        bad("BAD ahead of NO: fact, without room", town -> town.carve(0, 0, 2, true));
        bad("BAD ahead of NO: stone, without hours", town -> town.carve(1, 2, 0, true));
        Supplier<CarvedWeeks> none = RefusalsTest::withContradiction;
        refused("BAD ahead of NONE: fact", none, town -> town.belief(2, 0), BAD);
        refused("BAD ahead of NONE: part", none, town -> town.belief(0, 2), BAD);
        refused("BAD ahead of NONE: what of no lie", none, town -> town.lie(0, 1, 2), BAD);
        refused("BAD ahead of NONE: rule of no lie", none, town -> town.lie(0, 3, 0), BAD);
        refused("BAD ahead of NONE: person of no lie", none, town -> town.lie(1, 1, 0), BAD);
        refused("there is no lie", none, town -> town.lie(0, 1, 0), NONE);
        refused("BAD ahead of NONE: set, without room", none, town -> town.soonest(4), BAD);
        refused("there is no room", none, town -> town.soonest(1), NONE);
        CarvedWeeks text = new CarvedWeeks();
        Check.type(text, "d00;".repeat(50));
        CHECK.due("BAD ahead of FULL: letter", text.write(127), BAD);
        CHECK.due("no letter", text.write(31), BAD);
    }

    private static void askingChangesNothing() {
        CHECK.sentence("Of several the first; nothing changes then.");
        CarvedWeeks asked = busy();
        for (int what = 0; what <= 1; what++) {
            asked.known(1, what);
            asked.belief(0, what);
            asked.lie(0, 1, what);
            asked.stand(what);
            asked.year(9999, 60, what);
        }
        for (int set = 0; set <= 3; set++) {
            asked.least(set);
            asked.soonest(set);
            asked.was(set);
            asked.hands(set);
        }
        asked.safe(1);
        asked.clash();
        asked.missed();
        asked.sale(1, 0);
        asked.worth();
        asked.two(0, 1);
        asked.fault();
        CHECK.alike("questions", Sight.through(asked), Sight.through(busy()));
    }
}
