import java.util.List;

/**
 * What the document refuses: a test for each sentence that names an exception, on an empty, a short,
 * a half erased, an all erased, a nearly full and a full object. Each refused call is also held
 * against the sentence that it changes nothing.
 */
public final class RefusalsTest {
    private static final Checks CHECKS = new Checks();
    private static final String ARGUMENT = "throws.IllegalArgumentException";
    private static final String INDEX = "throws.IndexOutOfBoundsException";
    private static final String STATE = "throws.IllegalStateException";

    private static final int LEAST = Integer.MIN_VALUE;
    private static final int GREATEST = Integer.MAX_VALUE;
    /** Also those that a mask, a remainder or a narrower type would take for pages. */
    private static final int[] NO_PAGES = {-1, 3, LEAST, GREATEST, -2, -3, -4, 4, 256, 65536, LEAST + 1, 1 << 30};

    /** How long the texts are, and how many runs they have, is counted by hand from the steps. */
    private record State(String name, Script script, int[] lengths, int[] runs, boolean full, String everything) {
        static State of(String name, Script script, int[] lengths, int[] runs, boolean full) {
            return new State(name, script, lengths, runs, full, script.everything());
        }
    }

    private static final List<State> STATES = List.of(empty(), written(), halfErased(), allErased(),
            oneBelowTheLimit(), atTheLimit());

    public static void main(String[] args) {
        statesAreAsCounted();
        for (State state : STATES) {
            noPage(state);
            writePlace(state);
            erasePlace(state);
            markWhat(state);
            markStretch(state);
            ninetyOperations(state);
            tellNumber(state);
            placeWithoutLetter(state);
            runWhat(state);
            runNumber(state);
            countWhat(state);
        }
        argumentIsNamedBeforeIndexAndState();
        indexIsNamedBeforeState();
        refusedCallsInARow();
        CHECKS.end();
    }

    private static State empty() {
        return State.of("a new object", Script.NOTHING, new int[] {0, 0, 0}, new int[] {0, 0, 0}, false);
    }

    private static State written() {
        Script script = Script.NOTHING.thenText(0, 0, "abc").then(Step.tell(0, 1, 2), Step.write(1, 0, 'x'),
                Step.mark(0, 1, 2, Pages.ON_0));
        return State.of("written", script, new int[] {3, 3, 0}, new int[] {3, 1, 0}, false);
    }

    /** The row is longer than the text, on page 0 as well at its beginning, in its midst and at its end. */
    private static State halfErased() {
        Script script = Script.NOTHING.thenText(0, 0, "abcdef").then(Step.mark(0, 2, 4, Pages.ON_2),
                Step.tell(0, 2, 90), Step.erase(0, 5), Step.erase(0, 2), Step.erase(0, 0), Step.tell(0, 1, 8));
        return State.of("half erased", script, new int[] {3, 5, 6}, new int[] {3, 3, 3}, false);
    }

    private static State allErased() {
        Script script = Script.NOTHING.thenText(1, 0, "ab").then(Step.mark(1, 0, 2, Pages.ON_3),
                Step.tell(1, 2, 90), Step.erase(1, 0), Step.erase(1, 0), Step.tell(1, 0, 4));
        return State.of("all erased", script, new int[] {1, 0, 2}, new int[] {1, 0, 1}, false);
    }

    /** 87 letters, an erasing and a marking, made on all pages. */
    private static Script eightyNineMade() {
        return Script.NOTHING.thenText(0, 0, "a".repeat(57)).then(Step.tell(0, 1, 90))
                .thenText(1, 57, "b".repeat(30)).then(Step.erase(1, 86), Step.tell(1, 2, 2),
                Step.mark(2, 1, 2, Pages.ON_1));
    }

    private static State oneBelowTheLimit() {
        return State.of("one below the limit", eightyNineMade(), new int[] {57, 86, 2}, new int[] {1, 1, 2}, false);
    }

    private static State atTheLimit() {
        return State.of("at the limit", eightyNineMade().then(Step.erase(2, 0)),
                new int[] {57, 86, 1}, new int[] {1, 1, 1}, true);
    }

    private static void statesAreAsCounted() {
        for (State state : STATES) {
            about(state, "the states themselves");
            for (int page = 0; page < 3; page++) {
                due(state, Step.length(page), state.lengths[page]);
                due(state, Step.runs(page), state.runs[page]);
            }
        }
    }

    private static void about(State state, String sentence) {
        CHECKS.about(state.name + ", " + sentence);
    }

    private static void due(State state, Step step, Object want) {
        CHECKS.due(step.call(), want, state.script.answerTo(step));
    }

    private static void dueRefused(State state, Step step, String exception) {
        due(state, step, exception);
        CHECKS.due("what is told after " + step.call(), state.everything,
                state.script.then(step.tried()).everything());
    }

    /** An operation can be made unless 90 were made; its time is one more than the greatest known. */
    private static void dueMadeUnlessFull(State state, int page, Step step) {
        if (state.full) {
            dueRefused(state, step, STATE);
        } else {
            due(state, step, 1 + (int) state.script.answerTo(Step.count(page, 1)));
        }
    }

    private static void noPage(State state) {
        about(state, "Terms: \"In all calls, illegal argument: a page is not 0 .. 2.\"");
        for (int page : NO_PAGES) {
            List<Step> steps = List.of(Step.write(page, 0, 'c'), Step.erase(page, 0),
                    Step.mark(page, 0, 1, Pages.ON_0), Step.tell(page, 0, 1), Step.tell(0, page, 1),
                    Step.tell(page, page, 1), Step.tell(page, 1, 0), Step.tell(1, page, 0), Step.length(page),
                    Step.at(page, 0), Step.format(page, 0), Step.id(page, 0), Step.runs(page),
                    Step.run(page, 0, 0), Step.count(page, 0), Step.alike(page, 0), Step.alike(0, page),
                    Step.alike(page, page));
            for (Step step : steps) {
                dueRefused(state, step, ARGUMENT);
            }
        }
    }

    private static void writePlace(State state) {
        about(state, "promise 2: \"index out of bounds: p is not 0 .. the length of the text\"");
        for (int page = 0; page < 3; page++) {
            int length = state.lengths[page];
            for (int p : new int[] {LEAST, LEAST + 1, -2, -1, length + 1, length + 2, GREATEST - 1, GREATEST}) {
                dueRefused(state, Step.write(page, p, 'c'), INDEX);
            }
            dueMadeUnlessFull(state, page, Step.write(page, 0, 'c'));
            dueMadeUnlessFull(state, page, Step.write(page, length, 'c'));
        }
    }

    private static void erasePlace(State state) {
        about(state, "promise 3: \"index out of bounds: there is none\"");
        for (int page = 0; page < 3; page++) {
            int length = state.lengths[page];
            for (int p : placesWithout(length)) {
                dueRefused(state, Step.erase(page, p), INDEX);
            }
            for (int p : firstAndLast(length)) {
                if (state.full) {
                    dueRefused(state, Step.erase(page, p), STATE);
                } else {
                    due(state, Step.erase(page, p), state.script.answerTo(Step.at(page, p)));
                }
            }
        }
    }

    private static int[] placesWithout(int length) {
        return new int[] {LEAST, LEAST + 1, -2, -1, length, length + 1, GREATEST - 1, GREATEST};
    }

    private static int[] firstAndLast(int length) {
        return length == 0 ? new int[0] : new int[] {0, length - 1};
    }

    private static void markWhat(State state) {
        about(state, "promise 4: \"Illegal argument: also if what is not 0 .. 7\"");
        for (int page = 0; page < 3; page++) {
            int length = state.lengths[page];
            for (int what : new int[] {LEAST, LEAST + 1, -2, -1, 8, 9, 15, 16, GREATEST - 1, GREATEST}) {
                dueRefused(state, Step.mark(page, 0, length, what), ARGUMENT);
            }
            for (int what = 0; what < 8 && length > 0; what++) {
                dueMadeUnlessFull(state, page, Step.mark(page, 0, length, what));
            }
        }
    }

    private static void markStretch(State state) {
        about(state, "promise 4: \"index out of bounds: not 0 <= from < to <= the length of the text\"");
        for (int page = 0; page < 3; page++) {
            int length = state.lengths[page];
            for (int what = 0; what < 8; what++) {
                for (int[] stretch : stretchesOutside(length)) {
                    dueRefused(state, Step.mark(page, stretch[0], stretch[1], what), INDEX);
                }
            }
            for (int p : firstAndLast(length)) {
                dueMadeUnlessFull(state, page, Step.mark(page, p, p + 1, Pages.ON_1));
                dueMadeUnlessFull(state, page, Step.mark(page, p, length, Pages.ON_3));
            }
        }
    }

    private static int[][] stretchesOutside(int length) {
        return new int[][] {
            // from is below 0
            {-1, 0}, {-1, 1}, {-1, length}, {LEAST, 1}, {LEAST, LEAST + 1}, {LEAST, GREATEST},
            // from is not below to
            {0, 0}, {length, length}, {1, 0}, {length, 0}, {length, length - 1}, {0, -1}, {0, LEAST},
            {GREATEST, LEAST}, {GREATEST, GREATEST}, {LEAST, LEAST}, {GREATEST, 0},
            // to is above the length
            {0, length + 1}, {length, length + 1}, {length - 1, length + 1}, {0, GREATEST},
            {length + 1, length + 2}, {GREATEST - 1, GREATEST}};
    }

    private static void ninetyOperations(State state) {
        about(state, "promises 2 to 4: \"illegal state: 90 operations were made\"");
        if (!state.full) {
            return;
        }
        for (int page = 0; page < 3; page++) {
            dueRefused(state, Step.write(page, 0, 'c'), STATE);
            dueRefused(state, Step.erase(page, 0), STATE);
            dueRefused(state, Step.mark(page, 0, 1, Pages.OFF_2), STATE);
        }
        // No page knows all of the 90: they are counted where they were made, not where they are known.
        for (int page = 0; page < 3; page++) {
            CHECKS.due("count(" + page + ", 0) is below 90", true,
                    (int) state.script.answerTo(Step.count(page, 0)) < 90);
        }
    }

    private static void tellNumber(State state) {
        about(state, "promise 5: \"Illegal argument: also if n is below 0\"");
        for (int from = 0; from < 3; from++) {
            for (int to = 0; to < 3; to++) {
                for (int n : new int[] {-1, -2, -90, LEAST, LEAST + 1}) {
                    dueRefused(state, Step.tell(from, to, n), ARGUMENT);
                }
                due(state, Step.tell(from, to, 0), 0);
            }
        }
    }

    private static void placeWithoutLetter(State state) {
        about(state, "promises 7 to 9: \"index out of bounds: there is none\"");
        for (int page = 0; page < 3; page++) {
            for (int p : placesWithout(state.lengths[page])) {
                dueRefused(state, Step.at(page, p), INDEX);
                dueRefused(state, Step.format(page, p), INDEX);
                dueRefused(state, Step.id(page, p), INDEX);
            }
            for (int p : firstAndLast(state.lengths[page])) {
                for (Step step : List.of(Step.at(page, p), Step.format(page, p), Step.id(page, p))) {
                    CHECKS.due(step.call() + " throws", false,
                            state.script.answerTo(step) instanceof String);
                }
            }
        }
    }

    private static void runWhat(State state) {
        about(state, "promise 11: \"Illegal argument: also if what is none of these\"");
        for (int page = 0; page < 3; page++) {
            for (int what : new int[] {-1, 3, -2, 4, 5, LEAST, LEAST + 1, GREATEST}) {
                for (int k : new int[] {0, -1, state.runs[page] - 1, state.runs[page]}) {
                    dueRefused(state, Step.run(page, k, what), ARGUMENT);
                }
            }
        }
    }

    private static void runNumber(State state) {
        about(state, "promise 11: \"index out of bounds: there is no run k\"");
        for (int page = 0; page < 3; page++) {
            int runs = state.runs[page];
            for (int what = 0; what < 3; what++) {
                for (int k : placesWithout(runs)) {
                    dueRefused(state, Step.run(page, k, what), INDEX);
                }
                for (int k : firstAndLast(runs)) {
                    CHECKS.due(Step.run(page, k, what).call() + " throws", false,
                            state.script.answerTo(Step.run(page, k, what)) instanceof String);
                }
            }
        }
    }

    private static void countWhat(State state) {
        about(state, "promise 12: \"Illegal argument: also if what is none of these\"");
        for (int page = 0; page < 3; page++) {
            for (int what : new int[] {-1, 4, -2, 5, 8, LEAST, LEAST + 3, GREATEST}) {
                dueRefused(state, Step.count(page, what), ARGUMENT);
            }
        }
    }

    private static void argumentIsNamedBeforeIndexAndState() {
        for (State state : STATES) {
            about(state, "Terms: \"of several reasons the exception named first is thrown\", the argument");
            for (int page : new int[] {-1, 3, LEAST, GREATEST}) {
                for (int p : new int[] {-1, 90, LEAST, GREATEST}) {
                    dueRefused(state, Step.write(page, p, 'c'), ARGUMENT);
                    dueRefused(state, Step.erase(page, p), ARGUMENT);
                    dueRefused(state, Step.mark(page, p, p, Pages.ON_0), ARGUMENT);
                    dueRefused(state, Step.mark(page, 0, p, 8), ARGUMENT);
                    dueRefused(state, Step.at(page, p), ARGUMENT);
                    dueRefused(state, Step.format(page, p), ARGUMENT);
                    dueRefused(state, Step.id(page, p), ARGUMENT);
                    dueRefused(state, Step.run(page, p, 0), ARGUMENT);
                    dueRefused(state, Step.run(page, p, 3), ARGUMENT);
                }
            }
            for (int page = 0; page < 3; page++) {
                dueRefused(state, Step.mark(page, -1, 0, 8), ARGUMENT);
                dueRefused(state, Step.mark(page, 0, 91, -1), ARGUMENT);
                dueRefused(state, Step.mark(page, 1, 0, LEAST), ARGUMENT);
                dueRefused(state, Step.run(page, -1, 3), ARGUMENT);
                dueRefused(state, Step.run(page, 90, -1), ARGUMENT);
            }
        }
    }

    private static void indexIsNamedBeforeState() {
        State state = atTheLimit();
        about(state, "Terms: \"of several reasons the exception named first is thrown\", the index");
        for (int page = 0; page < 3; page++) {
            int length = state.lengths[page];
            dueRefused(state, Step.write(page, -1, 'c'), INDEX);
            dueRefused(state, Step.write(page, length + 1, 'c'), INDEX);
            dueRefused(state, Step.erase(page, -1), INDEX);
            dueRefused(state, Step.erase(page, length), INDEX);
            dueRefused(state, Step.mark(page, 0, length + 1, Pages.ON_0), INDEX);
            dueRefused(state, Step.mark(page, length, length, Pages.ON_2), INDEX);
            dueRefused(state, Step.mark(page, -1, length, Pages.OFF_3), INDEX);
        }
    }

    /** What one refused call left behind could show only after the next one. */
    private static void refusedCallsInARow() {
        for (State state : STATES) {
            about(state, "Terms: \"A call that throws changes nothing\", many in a row");
            Script script = state.script;
            for (int page = 0; page < 3; page++) {
                int length = state.lengths[page];
                script = script.then(Step.write(page, length + 1, 'c').tried(), Step.erase(page, length).tried(),
                        Step.mark(page, 0, length + 1, Pages.ON_0).tried(), Step.mark(page, 0, length, 8).tried(),
                        Step.tell(page, (page + 1) % 3, -1).tried(), Step.tell(page, 3, 90).tried(),
                        Step.run(page, state.runs[page], 1).tried(), Step.count(page, 4).tried());
            }
            CHECKS.due("what is told afterwards", state.everything, script.everything());
        }
    }
}
