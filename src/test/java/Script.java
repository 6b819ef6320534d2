import java.util.ArrayList;
import java.util.List;

/**
 * The calls that lead from a new object to a state. It is played anew for each reading, since no
 * answer is promised after an object's 512th call.
 */
final class Script {
    static final Script NOTHING = new Script(List.of());

    private final List<Step> steps;

    private Script(List<Step> steps) {
        this.steps = steps;
    }

    Script then(Step... more) {
        List<Step> all = new ArrayList<>(steps);
        all.addAll(List.of(more));
        return new Script(all);
    }

    /** Writes a text at the end of the text of a page, which has this length. */
    Script thenText(int page, int length, String text) {
        Script all = this;
        for (int i = 0; i < text.length(); i++) {
            all = all.then(Step.write(page, length + i, text.charAt(i)));
        }
        return all;
    }

    MarkedPages play() {
        MarkedPages x = new MarkedPages();
        for (Step step : steps) {
            step.on(x);
        }
        return x;
    }

    Object answerTo(Step step) {
        return step.tried().on(play());
    }

    /** All that calls can tell of the state. */
    String everything() {
        StringBuilder all = new StringBuilder();
        for (int page = 0; page < 3; page++) {
            addCounts(all, play(), page);
            addLetters(all, play(), page);
            addRuns(all, play(), page);
            addWhatIsToldByAndBy(all, play(), page, (page + 1) % 3);
            addWhatIsToldByAndBy(all, play(), page, (page + 2) % 3);
        }
        addHowManyCanBeMade(all, play());
        return all.toString();
    }

    private static void addCounts(StringBuilder all, MarkedPages x, int page) {
        all.append("\npage ").append(page).append(" counts");
        for (int what = 0; what < 4; what++) {
            all.append(' ').append(x.count(page, what));
        }
        for (int other = 0; other < 3; other++) {
            all.append(' ').append(x.alike(page, other));
        }
    }

    private static void addLetters(StringBuilder all, MarkedPages x, int page) {
        int length = x.length(page);
        all.append(" letters ").append(length);
        for (int p = 0; p < length; p++) {
            all.append(' ').append(x.at(page, p)).append(x.id(page, p)).append('/').append(x.format(page, p));
        }
    }

    private static void addRuns(StringBuilder all, MarkedPages x, int page) {
        int runs = x.runs(page);
        all.append(" runs ").append(runs);
        for (int k = 0; k < runs; k++) {
            all.append(' ').append(x.run(page, k, 0)).append('+').append(x.run(page, k, 1));
            all.append('/').append(x.run(page, k, 2));
        }
    }

    /** Shows the order in which a page came to know its operations. */
    private static void addWhatIsToldByAndBy(StringBuilder all, MarkedPages x, int from, int to) {
        all.append(" told to ").append(to);
        while (x.tell(from, to, 1) == 1) {
            all.append(' ').append(x.length(to)).append('/').append(x.count(to, 1));
        }
        all.append(' ').append(x.count(to, 0));
    }

    private static void addHowManyCanBeMade(StringBuilder all, MarkedPages x) {
        Step write = Step.write(0, 0, 'w').tried();
        int made = 0;
        while (made <= 90 && write.on(x) instanceof Integer) {
            made++;
        }
        all.append("\nmore can be made: ").append(made);
    }
}
