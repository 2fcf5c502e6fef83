import java.util.Random;

/** Long runs of drawn calls, each answered by the class and by Naive alike. */
public final class ModelTest {
    private static final int RUNS = 400;
    private static final int CALLS = 512;
    private static final Check CHECK = new Check("ModelTest");

    private final Random random;
    private final int run;
    private final CarvedWeeks town = new CarvedWeeks();
    private final Naive naive = new Naive();
    private int calls;

    private ModelTest(int run) {
        this.run = run;
        this.random = new Random(run);
    }

    public static void main(String[] args) {
        for (int run = 0; run < RUNS; run++) {
            new ModelTest(run).live();
        }
        CHECK.end();
    }

    private void live() {
        if (run % 8 != 0) {
            typeBoth(run % 8 == 1 ? garbled(aText()) : aText());
            due("fault()", town.fault(), naive.fault());
            due("lay()", town.lay(), naive.lay());
        }
        while (calls < CALLS) {
            call(random.nextInt(60));
        }
    }

    /** What is called later than CALLS is free to answer anything. */
    private void due(String call, long got, long want) {
        calls++;
        if (calls > CALLS) {
            return;
        }
        CHECK.due("run " + run + ", call " + calls + ": " + call, got, want);
    }

    private void typeBoth(String text) {
        due("wipe()", town.wipe(), naive.wipe());
        for (char letter : text.toCharArray()) {
            due("write(" + (int) letter + ")", town.write(letter), naive.write(letter));
        }
    }

    private int upTo(int most) {
        return random.nextInt(most + 1);
    }

    /** A number of 0 to most (0, if there is none), now and then one beside it. */
    private int near(int most) {
        return random.nextInt(12) == 0 ? random.nextInt(3) - 1 + (random.nextBoolean() ? most + 1 : 0) : upTo(Math.max(most, 0));
    }

    private String aText() {
        StringBuilder text = new StringBuilder();
        int facts = random.nextInt(5) == 0 ? 4 : 1 + upTo(7);
        if (facts != 4) {
            text.append("f").append(facts).append(";");
        }
        int lies = random.nextInt(3);
        for (int k = upTo(10) / (1 + random.nextInt(2)); k > 0; k--) {
            text.append("i").append(upTo(2 * facts - 1)).append(",").append(upTo(2 * facts - 1)).append(";");
        }
        for (int f = upTo(3) / 2; f > 0; f--) {
            text.append("d").append(upTo(facts - 1)).append(";");
        }
        int persons = 1 + upTo(4);
        for (int i = 0; i < persons; i++) {
            text.append("p").append(upTo(40)).append(",").append(lies == 0 ? 0 : upTo(9)).append(";");
        }
        for (int s = 1 + upTo(4); s > 0; s--) {
            text.append("s").append(1 + upTo(5)).append(",").append(1 + upTo(8) / (1 + upTo(4))).append(",")
                    .append(upTo(3)).append(";");
        }
        for (int b = upTo(6); b > 0; b--) {
            text.append("b").append(upTo(persons - 1)).append(",").append(1 + upTo(5)).append(",").append(upTo(99) / 9)
                    .append(";");
        }
        return text.toString();
    }

    private String garbled(String text) {
        StringBuilder garbled = new StringBuilder(text);
        String signs = "fidpsb;,0123456789 x";
        garbled.setCharAt(random.nextInt(garbled.length()), signs.charAt(random.nextInt(signs.length())));
        return garbled.toString();
    }

    private void call(int kind) {
        if (kind < 12) {
            carve();
        } else if (kind < 22) {
            change(kind);
        } else if (kind < 40) {
            ask(kind);
        } else {
            look(kind);
        }
    }

    private void carve() {
        int i = near(naive.count(2) - 1);
        int s = near(naive.count(3) - 1);
        int f = near(naive.count(0) - 1);
        boolean truly = random.nextInt(4) != 0;
        due("carve(" + i + ", " + s + ", " + f + ", " + truly + ")", town.carve(i, s, f, truly),
                naive.carve(i, s, f, truly));
    }

    private void change(int kind) {
        int i = near(naive.count(2) - 1);
        int m = near(naive.count(7) - 1);
        int set = Math.max(naive.world(upTo(naive.count(5) - 1)), 0);
        int other = near((1 << naive.count(0)) - 1);
        int letter = 30 + upTo(100);
        switch (kind) {
            case 12:
            case 13:
                due("deed(" + set + ")", town.deed(set), naive.deed(set));
                break;
            case 14:
                due("deed(" + other + ")", town.deed(other), naive.deed(other));
                break;
            case 15:
                due("chisel(" + i + ", " + m + ")", town.chisel(i, m), naive.chisel(i, m));
                break;
            case 16:
            case 17:
                due("bell()", town.bell(), naive.bell());
                break;
            case 18:
                due("undo()", town.undo(), naive.undo());
                break;
            case 19:
                due("keep()", town.keep(), naive.keep());
                break;
            case 20:
                due("back()", town.back(), naive.back());
                break;
            default:
                due("write(" + letter + ")", town.write(letter), naive.write(letter));
                due("fault()", town.fault(), naive.fault());
                due("lay()", town.lay(), naive.lay());
        }
    }

    private void ask(int kind) {
        int f = near(naive.count(0) - 1);
        int g = near(naive.count(0) - 1);
        int set = near((1 << naive.count(0)) - 1);
        int saying = near(2 * naive.count(0) - 1);
        int i = near(naive.count(2) - 1);
        int h = random.nextInt(12) == 0 ? upTo(3) : 1 + upTo(1);
        int part = near(1);
        switch (kind) {
            case 22:
                due("belief(" + f + ", " + part + ")", town.belief(f, part), naive.belief(f, part));
                break;
            case 23:
                due("least(" + set + ")", town.least(set), naive.least(set));
                break;
            case 24:
                due("soonest(" + set + ")", town.soonest(set), naive.soonest(set));
                break;
            case 25:
            case 26:
                due("lie(" + i + ", " + h + ", " + part + ")", town.lie(i, h, part), naive.lie(i, h, part));
                break;
            case 27:
                due("safe(" + h + ")", town.safe(h), naive.safe(h));
                break;
            case 28:
                due("clash()", town.clash(), naive.clash());
                break;
            case 29:
                due("stand(" + part + ")", town.stand(part), naive.stand(part));
                break;
            case 30:
            case 31:
                due("was(" + saying + ")", town.was(saying), naive.was(saying));
                break;
            case 32:
            case 33:
                due("missed()", town.missed(), naive.missed());
                break;
            case 34:
                due("worth()", town.worth(), naive.worth());
                break;
            case 35:
            case 36:
                due("two(" + f + ", " + g + ")", town.two(f, g), naive.two(f, g));
                break;
            default:
                askOfRooms();
        }
    }

    private void askOfRooms() {
        int n = near(12);
        int b = near(naive.count(4));
        due("sale(" + n + ", " + (b - 1) + ")", town.sale(n, b - 1), naive.sale(n, b - 1));
        int z = near(9999);
        int weeks = random.nextInt(4) == 0 ? near(60) : 1 + upTo(5);
        int what = near(1);
        due("year(" + z + ", " + weeks + ", " + what + ")", town.year(z, weeks, what), naive.year(z, weeks, what));
    }

    private void look(int kind) {
        int what = near(5);
        int m = near(naive.count(7) - 1);
        int s = near(naive.count(3) - 1);
        int i = near(naive.count(2) - 1);
        int k = near(naive.count(5));
        int law = near(naive.count(1) - 1);
        int saying = near(2 * naive.count(0) - 1);
        switch (kind % 8) {
            case 0:
                due("known(1, " + what + ")", town.known(1, what), naive.known(1, what));
                due("known(2, " + what + ")", town.known(2, what), naive.known(2, what));
                break;
            case 1:
                due("hands(" + saying + ")", town.hands(saying), naive.hands(saying));
                break;
            case 2:
                due("mark(" + m + ", " + what + ")", town.mark(m, what), naive.mark(m, what));
                break;
            case 3:
                due("stone(" + s + ", " + what + ")", town.stone(s, what), naive.stone(s, what));
                break;
            case 4:
                due("person(" + i + ", " + what + ")", town.person(i, what), naive.person(i, what));
                break;
            case 5:
                due("world(" + k + ")", town.world(k), naive.world(k));
                break;
            case 6:
                due("law(" + law + ", " + what + ")", town.law(law, what), naive.law(law, what));
                break;
            default:
                for (int c = -1; c <= 12; c++) {
                    due("count(" + c + ")", town.count(c), naive.count(c));
                }
        }
    }
}
