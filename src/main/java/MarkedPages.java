/**
 * Three pages on which the same text is written at the same time, each by itself. Every page keeps
 * the operations that it knows; pages that know the same show the same.
 */
public final class MarkedPages {

    private static final int PAGES = 3;
    private static final int MOST_OPERATIONS = 90;
    private static final int KINDS = 4;

    private final Page[] pages;
    private int made;

    public MarkedPages() {
        pages = new Page[PAGES];
        for (int i = 0; i < PAGES; i++) {
            pages[i] = new Page();
        }
        made = 0;
    }

    public int write(int page, int p, char c)
            throws IllegalArgumentException, IndexOutOfBoundsException, IllegalStateException {
        Page writer = pageNumbered(page);
        refuseIndexUnless(p >= 0 && p <= writer.textSize);
        refuseWhenAllAreMade();
        Writing parent = p == 0 ? null : writer.text[p - 1];
        return make(writer, new Writing(made, writer.nextTime(), page, c, parent));
    }

    public char erase(int page, int p)
            throws IllegalArgumentException, IndexOutOfBoundsException, IllegalStateException {
        Page eraser = pageNumbered(page);
        Writing erased = eraser.writingShownAt(p);
        refuseWhenAllAreMade();
        make(eraser, new Erasing(made, eraser.nextTime(), page, erased));
        return erased.letter;
    }

    public int mark(int page, int from, int to, int what)
            throws IllegalArgumentException, IndexOutOfBoundsException, IllegalStateException {
        Page marker = pageNumbered(page);
        refuseArgumentUnless(what >= 0 && what < 2 * KINDS);
        refuseIndexUnless(0 <= from && from < to && to <= marker.textSize);
        refuseWhenAllAreMade();
        Writing first = marker.text[from];
        int endPlace = Marking.endsBeforeItsEndLetter(what) ? to : to - 1;
        Writing end = endPlace < marker.textSize ? marker.text[endPlace] : null;
        return make(marker, new Marking(made, marker.nextTime(), page, what, first, end));
    }

    public int tell(int from, int to, int n) throws IllegalArgumentException {
        Page teller = pageNumbered(from);
        Page hearer = pageNumbered(to);
        refuseArgumentUnless(n >= 0);
        int told = 0;
        for (int i = 0; i < teller.knownSize && told < n; i++) {
            Operation operation = teller.known[i];
            if (!hearer.knows[operation.number]) {
                hearer.learn(operation);
                told++;
            }
        }
        return told;
    }

    public int length(int page) throws IllegalArgumentException {
        return pageNumbered(page).textSize;
    }

    public char at(int page, int p) throws IllegalArgumentException, IndexOutOfBoundsException {
        return pageNumbered(page).writingShownAt(p).letter;
    }

    public int format(int page, int p) throws IllegalArgumentException, IndexOutOfBoundsException {
        Page reader = pageNumbered(page);
        return reader.formatOf(reader.writingShownAt(p));
    }

    public int id(int page, int p) throws IllegalArgumentException, IndexOutOfBoundsException {
        return pageNumbered(page).writingShownAt(p).rank;
    }

    public int runs(int page) throws IllegalArgumentException {
        Page reader = pageNumbered(page);
        int found = 0;
        for (int p = 0; p < reader.textSize; p++) {
            if (reader.startsRun(p)) {
                found++;
            }
        }
        return found;
    }

    public int run(int page, int k, int what) throws IllegalArgumentException, IndexOutOfBoundsException {
        Page reader = pageNumbered(page);
        refuseArgumentUnless(what >= 0 && what <= 2);
        int start = reader.startOfRun(k);
        refuseIndexUnless(start < reader.textSize);
        switch (what) {
            case 0:
                return start;
            case 1:
                return reader.startOfRun(k + 1) - start;
            default:
                return reader.formatOf(reader.text[start]);
        }
    }

    public int count(int page, int what) throws IllegalArgumentException {
        Page counted = pageNumbered(page);
        refuseArgumentUnless(what >= 0 && what <= 3);
        switch (what) {
            case 0:
                return counted.knownSize;
            case 1:
                return counted.greatestTime;
            case 2:
                return counted.rowSize;
            default:
                return counted.markingsSize;
        }
    }

    public boolean alike(int page, int other) throws IllegalArgumentException {
        Page one = pageNumbered(page);
        Page two = pageNumbered(other);
        return one.knownSize == two.knownSize && one.knowsAllOf(two);
    }

    private Page pageNumbered(int page) {
        refuseArgumentUnless(page >= 0 && page < PAGES);
        return pages[page];
    }

    private int make(Page page, Operation operation) {
        made++;
        page.learn(operation);
        return operation.time;
    }

    private void refuseWhenAllAreMade() {
        if (made >= MOST_OPERATIONS) {
            throw new IllegalStateException();
        }
    }

    private static void refuseArgumentUnless(boolean legal) {
        if (!legal) {
            throw new IllegalArgumentException();
        }
    }

    private static void refuseIndexUnless(boolean within) {
        if (!within) {
            throw new IndexOutOfBoundsException();
        }
    }

    /** What was made on a page. It never changes, so all pages that know it share it. */
    private abstract static class Operation {
        /** How many were made before it; pages note what they know of it under this index. */
        final int number;
        final int time;
        /** The id as one number: there are fewer than four pages, so these numbers go as the ids go. */
        final int rank;

        Operation(int number, int time, int page) {
            this.number = number;
            this.time = time;
            this.rank = 4 * time + page;
        }

        abstract void reach(Page page);
    }

    private static final class Writing extends Operation {
        final char letter;
        /** Null for a letter at the beginning. */
        final Writing parent;

        Writing(int number, int time, int page, char letter, Writing parent) {
            super(number, time, page);
            this.letter = letter;
            this.parent = parent;
        }

        void reach(Page page) {
            page.putIntoRow(this);
        }
    }

    private static final class Erasing extends Operation {
        final Writing erased;

        Erasing(int number, int time, int page, Writing erased) {
            super(number, time, page);
            this.erased = erased;
        }

        void reach(Page page) {
            page.gone[erased.number] = true;
        }
    }

    private static final class Marking extends Operation {
        final boolean on;
        /** What its kind adds to a format. */
        final int weight;
        final boolean endLetterIsCovered;
        final Writing first;
        /** Null if there is no end. */
        final Writing end;

        Marking(int number, int time, int page, int what, Writing first, Writing end) {
            super(number, time, page);
            this.on = what % 2 == 1;
            this.weight = 1 << (what / 2);
            this.endLetterIsCovered = !endsBeforeItsEndLetter(what);
            this.first = first;
            this.end = end;
        }

        static boolean endsBeforeItsEndLetter(int what) {
            return what / 2 < 2;
        }

        void reach(Page page) {
            page.addMarking(this);
        }

        boolean covers(int place, int[] places) {
            if (place < places[first.number]) {
                return false;
            }
            if (end == null) {
                return true;
            }
            int endPlace = places[end.number];
            return place < endPlace || (place == endPlace && endLetterIsCovered);
        }
    }

    /**
     * What one page knows. It learns operations in an order in which nothing comes before what it
     * speaks of: a page is told in the order in which the teller itself came to know.
     */
    private static final class Page {
        /** In the order in which the page came to know them. */
        final Operation[] known;
        int knownSize;
        int greatestTime;
        final Writing[] row;
        int rowSize;
        final Writing[] text;
        int textSize;
        /** By rising ids, so that the last one of a kind that covers a letter decides. */
        final Marking[] markings;
        int markingsSize;

        /** The index of these three is an operation's number. */
        final boolean[] knows;
        final boolean[] gone;
        final int[] places;

        Page() {
            known = new Operation[MOST_OPERATIONS];
            row = new Writing[MOST_OPERATIONS];
            text = new Writing[MOST_OPERATIONS];
            markings = new Marking[MOST_OPERATIONS];
            knows = new boolean[MOST_OPERATIONS];
            gone = new boolean[MOST_OPERATIONS];
            places = new int[MOST_OPERATIONS];
        }

        int nextTime() {
            return greatestTime + 1;
        }

        void learn(Operation operation) {
            known[knownSize] = operation;
            knownSize++;
            knows[operation.number] = true;
            greatestTime = Math.max(greatestTime, operation.time);
            operation.reach(this);
            gatherText();
        }

        boolean knowsAllOf(Page other) {
            for (int i = 0; i < other.knownSize; i++) {
                if (!knows[other.known[i].number]) {
                    return false;
                }
            }
            return true;
        }

        void putIntoRow(Writing writing) {
            int place = writing.parent == null ? 0 : places[writing.parent.number] + 1;
            // A letter has a greater id than its parent. So greater ids right behind the parent are
            // greater letters behind the same parent with all that follows them, and the first
            // smaller id ends these.
            while (place < rowSize && row[place].rank > writing.rank) {
                place++;
            }
            for (int i = rowSize; i > place; i--) {
                setInRow(i, row[i - 1]);
            }
            setInRow(place, writing);
            rowSize++;
        }

        private void setInRow(int place, Writing writing) {
            row[place] = writing;
            places[writing.number] = place;
        }

        void addMarking(Marking marking) {
            int i = markingsSize;
            while (i > 0 && markings[i - 1].rank > marking.rank) {
                markings[i] = markings[i - 1];
                i--;
            }
            markings[i] = marking;
            markingsSize++;
        }

        private void gatherText() {
            textSize = 0;
            for (int i = 0; i < rowSize; i++) {
                if (!gone[row[i].number]) {
                    text[textSize] = row[i];
                    textSize++;
                }
            }
        }

        Writing writingShownAt(int p) {
            refuseIndexUnless(p >= 0 && p < textSize);
            return text[p];
        }

        int formatOf(Writing writing) {
            int place = places[writing.number];
            int format = 0;
            for (int i = 0; i < markingsSize; i++) {
                Marking marking = markings[i];
                if (marking.covers(place, places)) {
                    format = marking.on ? format | marking.weight : format & ~marking.weight;
                }
            }
            return format;
        }

        /** For a place of the text. */
        boolean startsRun(int p) {
            return p == 0 || formatOf(text[p]) != formatOf(text[p - 1]);
        }

        /** The place of the first letter of run k; the text's size if there is no such run. */
        int startOfRun(int k) {
            int found = 0;
            for (int p = 0; p < textSize; p++) {
                if (startsRun(p)) {
                    if (found == k) {
                        return p;
                    }
                    found++;
                }
            }
            return textSize;
        }
    }
}
