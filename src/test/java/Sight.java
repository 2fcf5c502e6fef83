/** What a town shows when it is asked, in one text, so that two towns can be compared; of calls it takes few. */
final class Sight {
    private Sight() {
    }

    /** How things stand: all that deeds, marks, bells, undo, back, keep and letters change. */
    static String of(CarvedWeeks town) {
        StringBuilder seen = new StringBuilder(standing(town)).append(" counts");
        for (int what = 9; what <= 11; what++) {
            seen.append(' ').append(town.count(what));
        }
        return seen.toString();
    }

    /** THE TRUTH, MARKS, hours, weeks: what is kept and undone. */
    static String standing(CarvedWeeks town) {
        StringBuilder seen = new StringBuilder(briefly(town));
        for (int m = 0; m < town.count(7); m++) {
            seen.append(" mark");
            for (int what = 0; what <= 4; what++) {
                seen.append(' ').append(town.mark(m, what));
            }
        }
        return seen.toString();
    }

    /** The same without what each mark is, for a town that is asked often: an object is used for 512 calls at most. */
    private static String briefly(CarvedWeeks town) {
        StringBuilder seen = new StringBuilder("truth ").append(town.count(6)).append(" marks ").append(town.count(7))
                .append(" weeks ").append(town.count(8)).append(" hours");
        for (int i = 0; i < town.count(2); i++) {
            seen.append(' ').append(town.person(i, 2));
        }
        return seen.toString();
    }

    /** What a text has told: facts, laws, persons, stones, bids, worlds. */
    static String ofTown(CarvedWeeks town) {
        StringBuilder seen = new StringBuilder("facts ").append(town.count(0));
        for (int k = 0; k < town.count(1); k++) {
            seen.append(" law ").append(town.law(k, 0)).append(' ').append(town.law(k, 1));
        }
        for (int i = 0; i < town.count(2); i++) {
            seen.append(" person ").append(town.person(i, 0)).append(' ').append(town.person(i, 1));
        }
        for (int s = 0; s < town.count(3); s++) {
            seen.append(" stone");
            for (int what = 0; what <= 3; what++) {
                seen.append(' ').append(town.stone(s, what));
            }
        }
        for (int b = 0; b < town.count(4); b++) {
            seen.append(" bid ").append(town.sale(12, b)).append(' ').append(town.sale(1, b));
        }
        seen.append(" worlds");
        for (int k = 0; k < town.count(5); k++) {
            seen.append(' ').append(town.world(k));
        }
        return seen.toString();
    }

    /** As it stands, and as it stood at each undo and then at each back: the town is used up by it. */
    static String through(CarvedWeeks town) {
        StringBuilder seen = new StringBuilder(of(town)).append('\n').append(ofTown(town));
        for (int undone = 0; undone < 9; undone++) {
            seen.append("\nundo ").append(town.undo()).append(' ').append(briefly(town));
        }
        seen.append('\n').append(of(town));
        for (int back = 0; back < 3; back++) {
            seen.append("\nback ").append(town.back()).append(' ').append(of(town));
        }
        return seen.toString();
    }
}
