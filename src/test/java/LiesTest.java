/** Promises 21 and 22: lies that gain, and rules under which none does. */
public final class LiesTest {
    private static final int BAD = -1, NONE = -4;
    private static final Check CHECK = new Check("LiesTest");

    public static void main(String[] args) {
        lieByRuleOne();
        lieByRuleTwo();
        lieAtNoArch();
        lieThatGainsNothing();
        refused();
        CHECK.end();
    }

    private static void due(String call, long got, long want) {
        CHECK.due(call, got, want);
    }

    private static void lieByRuleOne() {
        CarvedWeeks x = Check.laid("f2;i0,2;p9,0;p9,5;s3,1,0;");
        due("the lie by which two are wrong", x.lie(0, 1, 0), 0);
        due("how much", x.lie(0, 1, 1), 2);
        due("not safe", x.safe(1), 0);
        x.deed(3);
        due("by truth 3: not fact 1", x.lie(0, 1, 0), 3);
        due("how much by truth 3", x.lie(0, 1, 1), 2);
        due("of several the lowest", Check.laid("f2;p0,0;s3,9,0;").lie(0, 1, 0), 0);
        due("hours let be", Check.laid("f2;p0,0;s3,9,0;").lie(0, 1, 1), 1);
        CarvedWeeks late = Check.laid("f3;i0,1;i2,4;p9,0;s1,1,0;");
        due("a fact that cannot be so gains nothing", late.lie(0, 1, 0), 2);
        due("nor does it count", late.lie(0, 1, 1), 2);
    }

    private static void lieByRuleTwo() {
        CarvedWeeks x = Check.laid("f2;i0,2;p9,0;p9,5;s3,1,0;");
        due("one hand is not read", x.lie(0, 2, 0), NONE);
        due("how much of none", x.lie(0, 2, 1), NONE);
        due("safe", x.safe(2), 1);
        x.carve(1, 0, 1, false);
        due("a second hand", x.lie(0, 2, 0), 2);
        due("how much", x.lie(0, 2, 1), 1);
        due("the same hand again", x.lie(1, 2, 0), NONE);
        due("not safe, for one of them", x.safe(2), 0);
        CarvedWeeks lone = Check.laid("f1;p9,0;s1,1,0;");
        lone.carve(0, 0, 0, false);
        due("safe where nobody else can cut", lone.safe(2), 1);
    }

    private static void lieAtNoArch() {
        CarvedWeeks x = Check.laid("f2;i0,2;p9,0;p9,5;s3,1,3;");
        due("a lie is cut at no ARCH", x.lie(0, 2, 0), NONE);
        due("so the rule is safe", x.safe(2), 1);
        due("by rule 1 it is not", x.safe(1), 0);
        x.carve(0, 0, 1, false);
        due("what is READ is WRONG now", x.known(2, 3), 1);
        due("none is more wrong", x.lie(1, 2, 0), NONE);
        due("nor by him", x.lie(0, 2, 0), NONE);
    }

    private static void lieThatGainsNothing() {
        CarvedWeeks x = Check.laid("f2;p9,0;s3,1,0;");
        x.carve(0, 0, 0, true);
        due("only fact 1 can be lied of", x.lie(0, 1, 0), 2);
        x.carve(0, 0, 1, true);
        due("all is known: any lie disagrees", x.lie(0, 1, 0), NONE);
        due("safe by rule 1", x.safe(1), 1);
        due("room let be", Check.laid("f1;p9,0;s1,1,0;").lie(0, 1, 0), 0);
        CarvedWeeks full = Check.laid("f1;p9,0;s1,1,2;");
        full.carve(0, 0, 0, false);
        due("the lie is cut already", full.lie(0, 1, 0), NONE);
    }

    private static void refused() {
        CarvedWeeks x = new CarvedWeeks();
        due("lie(2, 1, 0)", x.lie(2, 1, 0), BAD);
        due("lie(-1, 1, 0)", x.lie(-1, 1, 0), BAD);
        due("lie(0, 0, 0)", x.lie(0, 0, 0), BAD);
        due("lie(0, 3, 0)", x.lie(0, 3, 0), BAD);
        due("lie(0, 1, 2)", x.lie(0, 1, 2), BAD);
        due("lie(0, 1, -1)", x.lie(0, 1, -1), BAD);
        due("BAD ahead of NONE", x.lie(0, 2, 2), BAD);
        due("safe(0)", x.safe(0), BAD);
        due("safe(3)", x.safe(3), BAD);
    }
}
