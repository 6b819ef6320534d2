/**
 * The boundaries at which the document says what holds, not what is refused: one test for each
 * sentence, which stands in its topic. What is refused has RefusalsTest.
 */
public final class BoundariesTest {
    private static final Checks CHECKS = new Checks();

    public static void main(String[] args) {
        lastPromisedCall();
        timeWithoutKnownOperations();
        timeBehindTheGreatestOne();
        greatestTimes();
        idsOfTheSameTime();
        idsOfGreaterTimeAndSmallerPage();
        knownIsWhatWasMadeOrTold();
        ninetyOperationsInAll();
        ninetiethOperationOfEachSort();
        anyChar();
        lettersBehindNone();
        rowWithGoneLetters();
        rowBehindGoneParents();
        rowInEveryOrderOfTelling();
        textByWhatThePageKnows();
        textOfGoneLettersAlone();
        coverFromTheFirstLetter();
        coverBeforeTheEndLetter();
        coverUpToTheEndLetter();
        coverWithoutEnd();
        coverWhereFirstAndEndAreGone();
        kindsThatALetterHas();
        kindByTheGreatestId();
        sumsOfFormats();
        longestStretches();
        nothingWasMade();
        writeAtBothEnds();
        eraseTheLastOne();
        markOfOneLetterAndOfAll();
        markWhatSaysOnOrOff();
        tellNone();
        tellFewerThanAsked();
        tellSkipsWhatIsKnown();
        tellItself();
        tellAtTheLimit();
        lengthAtBothLimits();
        lettersAtBothEnds();
        leastAndGreatestIds();
        fewestAndMostRuns();
        firstAndLastRun();
        countWithout();
        alikeOfFewAndMany();
        CHECKS.end();
    }

    private static void about(String where, String sentence) {
        CHECKS.about(where + ": \"" + sentence + "\"");
    }

    private static void dueText(MarkedPages x, int page, String want) {
        CHECKS.due("the text of page " + page, want, Pages.text(x, page));
    }

    private static void dueTextOnAll(MarkedPages x, String want) {
        for (int page = 0; page < 3; page++) {
            dueText(x, page, want);
        }
    }

    private static void dueFormats(MarkedPages x, int page, String want) {
        CHECKS.due("the formats of page " + page, want, Pages.formats(x, page));
    }

    private static void dueFormatsOnAll(MarkedPages x, String want) {
        for (int page = 0; page < 3; page++) {
            dueFormats(x, page, want);
        }
    }

    private static void dueRun(MarkedPages x, int page, int k, int place, int size, int format) {
        CHECKS.due("run(" + page + ", " + k + ", 0)", place, x.run(page, k, 0));
        CHECKS.due("run(" + page + ", " + k + ", 1)", size, x.run(page, k, 1));
        CHECKS.due("run(" + page + ", " + k + ", 2)", format, x.run(page, k, 2));
    }

    private static void dueCounts(MarkedPages x, int page, int known, int time, int row, int markings) {
        int[] wanted = {known, time, row, markings};
        for (int what = 0; what < 4; what++) {
            CHECKS.due("count(" + page + ", " + what + ")", wanted[what], x.count(page, what));
        }
    }

    private static void lastPromisedCall() {
        about("What it is", "An object is used for at most 512 calls after it has been made");
        MarkedPages x = Pages.withText("a".repeat(90));
        for (int calls = 90; calls < 511; calls++) {
            CHECKS.due("at", 'a', x.at(0, calls % 90));
        }
        CHECKS.due("the 512th call", 90, x.tell(0, 1, 90));

        MarkedPages y = new MarkedPages();
        for (int calls = 0; calls < 511; calls++) {
            CHECKS.dueIndex("erase(1, 0)", () -> y.erase(1, 0));
        }
        CHECKS.due("the 512th call, the first one that is not refused", 1, y.write(1, 0, 'a'));
    }

    private static void timeWithoutKnownOperations() {
        about("Terms", "(1, if it knows none)");
        MarkedPages x = new MarkedPages();
        for (int page = 0; page < 3; page++) {
            CHECKS.due("the first write on page " + page, 1, x.write(page, 0, 'a'));
        }
        MarkedPages y = Pages.withText("abcde");
        y.tell(0, 2, 0);
        CHECKS.due("write on a page that was told none", 1, y.write(2, 0, 'x'));
    }

    private static void timeBehindTheGreatestOne() {
        about("Terms", "the time is 1 more than the greatest time of all operations that the page knows then");
        MarkedPages x = Pages.withText("abc");
        x.tell(0, 1, 1);
        CHECKS.due("write after being told one of three", 2, x.write(1, 0, 'x'));
        x.tell(0, 1, 90);
        CHECKS.due("mark after being told all", 4, x.mark(1, 0, 1, Pages.ON_0));
        x.write(2, 0, 'y');
        x.tell(2, 1, 1);
        CHECKS.due("mark after being told of a smaller time", 5, x.mark(1, 0, 1, Pages.ON_0));
        x.erase(1, 0);
        CHECKS.due("write after an erasing", 7, x.write(1, 0, 'z'));
        CHECKS.due("write where nothing was told", 4, x.write(0, 0, 'd'));
        CHECKS.due("count(0, 1)", 4, x.count(0, 1));
        x.tell(1, 0, 90);
        CHECKS.due("mark after being told of a greater time", 8, x.mark(0, 0, 1, Pages.OFF_3));
    }

    private static void greatestTimes() {
        about("Terms, up to the greatest time", "the time is 1 more than the greatest time of all operations");
        MarkedPages x = new MarkedPages();
        for (int i = 0; i < 90; i++) {
            int page = i % 3;
            CHECKS.due("write", i + 1, x.write(page, 0, 'a'));
            x.tell(page, (page + 1) % 3, 90);
        }
        CHECKS.due("count(2, 1)", 90, x.count(2, 1));
        CHECKS.due("id(2, 0)", 362, x.id(2, 0));
    }

    private static void idsOfTheSameTime() {
        about("Terms", "of the same time that with the greater page");
        MarkedPages x = Pages.withTextOnAll("()");
        for (int page = 0; page < 3; page++) {
            CHECKS.due("write", 3, x.write(page, 1, (char) ('0' + page)));
        }
        for (int page = 0; page < 3; page++) {
            CHECKS.due("write", 4, x.write(page, 0, (char) ('a' + page)));
        }
        Pages.tellAll(x);
        dueTextOnAll(x, "cba(210)");
    }

    private static void idsOfGreaterTimeAndSmallerPage() {
        about("Terms", "Of two ids the one with the greater time is greater");
        MarkedPages x = new MarkedPages();
        x.write(2, 0, 'c');
        x.write(1, 0, 'z');
        x.write(1, 0, 'b');
        x.write(0, 0, 'y');
        x.write(0, 0, 'x');
        x.write(0, 0, 'a');
        Pages.tellAll(x);
        // times 3, 2 (page 1), 2 (page 0), 1 (page 2), 1 (page 1), 1 (page 0)
        dueTextOnAll(x, "abxczy");
    }

    private static void knownIsWhatWasMadeOrTold() {
        about("Terms", "A page KNOWS the operations that were made on it or told to it");
        MarkedPages x = Pages.withText("ab");
        dueCounts(x, 0, 2, 2, 2, 0);
        dueCounts(x, 1, 0, 0, 0, 0);
        x.tell(0, 1, 1);
        dueCounts(x, 1, 1, 1, 1, 0);
        dueText(x, 1, "a");
        dueCounts(x, 2, 0, 0, 0, 0);
        x.tell(1, 2, 90);
        dueCounts(x, 2, 1, 1, 1, 0);
        CHECKS.due("alike(1, 2)", true, x.alike(1, 2));
    }

    private static void ninetyOperationsInAll() {
        about("Terms", "At most 90 operations are made in all");
        MarkedPages x = new MarkedPages();
        for (int i = 0; i < 90; i++) {
            CHECKS.due("write " + i, i / 3 + 1, x.write(i % 3, 0, 'a'));
        }
        for (int page = 0; page < 3; page++) {
            int writer = page;
            CHECKS.dueState("write(" + page + ", 0, b)", () -> x.write(writer, 0, 'b'));
            CHECKS.dueState("write(" + page + ", 30, b)", () -> x.write(writer, 30, 'b'));
            CHECKS.dueState("erase(" + page + ", 0)", () -> x.erase(writer, 0));
            CHECKS.dueState("mark(" + page + ", 0, 30, 0)", () -> x.mark(writer, 0, 30, Pages.OFF_0));
            dueCounts(x, page, 30, 30, 30, 0);
        }
        // What is told is not made again.
        CHECKS.due("tell(0, 1, 90)", 30, x.tell(0, 1, 90));
        CHECKS.due("tell(1, 2, 90)", 60, x.tell(1, 2, 90));
        dueCounts(x, 2, 90, 30, 90, 0);
        CHECKS.dueState("write(2, 90, b)", () -> x.write(2, 90, 'b'));
    }

    private static void ninetiethOperationOfEachSort() {
        about("promises 2 to 4", "illegal state: 90 operations were made");
        for (int sort = 0; sort < 3; sort++) {
            MarkedPages x = Pages.withText("a".repeat(87));
            CHECKS.due("mark, the 88th", 88, x.mark(0, 0, 87, Pages.ON_2));
            CHECKS.due("erase, the 89th", 'a', x.erase(0, 86));
            switch (sort) {
                case 0 -> CHECKS.due("write, the 90th", 90, x.write(0, 86, 'b'));
                case 1 -> CHECKS.due("erase, the 90th", 'a', x.erase(0, 0));
                default -> CHECKS.due("mark, the 90th", 90, x.mark(0, 85, 86, Pages.OFF_2));
            }
            CHECKS.dueState("write, the 91st", () -> x.write(0, 0, 'c'));
            CHECKS.dueState("erase, the 91st", () -> x.erase(0, 0));
            CHECKS.dueState("mark, the 91st", () -> x.mark(0, 0, 1, Pages.OFF_2));
            dueCounts(x, 0, 90, 90, sort == 0 ? 88 : 87, sort == 2 ? 2 : 1);
            CHECKS.due("length(0)", sort == 0 ? 87 : sort == 1 ? 85 : 86, x.length(0));
        }
    }

    private static void anyChar() {
        about("Terms", "A WRITING puts a LETTER (any char)");
        char[] letters = {0, 1, '\n', 127, 128, 255, 256, 0x7fff, 0x8000, 0xd800, 0xdfff, 0xfffe, 0xffff};
        MarkedPages x = new MarkedPages();
        for (char letter : letters) {
            x.write(0, 0, letter);
            CHECKS.due("at(0, 0)", letter, x.at(0, 0));
        }
        x.tell(0, 1, 90);
        for (int i = letters.length - 1; i >= 0; i--) {
            CHECKS.due("at(1, 0)", letters[i], x.at(1, 0));
            CHECKS.due("erase(1, 0)", letters[i], x.erase(1, 0));
        }
        // The same letter again is another one.
        MarkedPages y = Pages.withText("aaa");
        y.erase(0, 1);
        CHECKS.due("length(0)", 2, y.length(0));
        CHECKS.due("id(0, 1)", 12, y.id(0, 1));
    }

    private static void lettersBehindNone() {
        about("Terms", "or at the beginning (behind none)");
        MarkedPages x = new MarkedPages();
        x.write(0, 0, 'a');
        dueText(x, 0, "a");
        x.write(0, 0, 'b');
        dueText(x, 0, "ba");
        x.erase(0, 0);
        x.erase(0, 0);
        x.write(0, 0, 'c');
        dueText(x, 0, "c");
        // c stands before all, though the row goes on with letters that are gone.
        x.tell(0, 1, 2);
        x.write(1, 2, 'd');
        x.tell(1, 0, 1);
        dueText(x, 0, "cd");
        CHECKS.due("letters of the row", 4, x.count(0, 2));
    }

    private static void rowWithGoneLetters() {
        about("Terms", "the letters of all writings that it knows, also those that are gone");
        MarkedPages x = Pages.withText("abc");
        for (int erased = 1; erased <= 3; erased++) {
            x.erase(0, 0);
            dueCounts(x, 0, 3 + erased, 3 + erased, 3, 0);
            CHECKS.due("length(0)", 3 - erased, x.length(0));
        }
        x.write(0, 0, 'd');
        dueCounts(x, 0, 7, 7, 4, 0);
    }

    private static void rowBehindGoneParents() {
        about("Terms, gone parents", "each followed at once by those behind it, by falling ids");
        MarkedPages x = Pages.withTextOnAll("abcd");
        x.erase(0, 1);
        x.erase(0, 1);
        // Behind c, which is gone on page 0; and behind b, with a whole row behind it.
        x.write(1, 3, 'x');
        x.write(2, 2, 'y');
        x.write(2, 3, 'z');
        x.write(2, 4, '!');
        // Behind a on page 0: with a greater time than b has, so before it.
        x.write(0, 1, 'w');
        Pages.tellAll(x);
        dueTextOnAll(x, "awyz!xd");
    }

    private static void rowInEveryOrderOfTelling() {
        about("What it is, in every order of telling", "those that know the same show the same");
        int[][] orders = {{0, 1, 2}, {0, 2, 1}, {1, 0, 2}, {1, 2, 0}, {2, 0, 1}, {2, 1, 0}};
        for (int[] order : orders) {
            MarkedPages x = Pages.withTextOnAll("ad");
            for (int page = 0; page < 3; page++) {
                x.write(page, 1, (char) ('k' + page));
                x.write(page, 2, (char) ('K' + page));
                x.mark(page, 0, 2 + page, Pages.ON_0 + 2 * page);
            }
            x.erase(1, 0);
            for (int n = 0; n < 12; n++) {
                x.tell(order[n % 3], order[(n + 1) % 3], 1 + n / 3);
                x.tell(order[n % 3], order[(n + 2) % 3], 1);
            }
            Pages.tellAll(x);
            dueTextOnAll(x, "mMlLkKd");
            // The marking of page 0 ends before K, that of page 1 before d, that of page 2 with d.
            dueFormatsOnAll(x, "7777764");
        }
    }

    private static void textByWhatThePageKnows() {
        about("Terms", "those letters of the row that are not gone by what it knows");
        MarkedPages x = Pages.withTextOnAll("abc");
        x.erase(0, 1);
        dueText(x, 0, "ac");
        dueText(x, 1, "abc");
        x.erase(1, 1);
        CHECKS.due("tell(0, 1, 1), of a letter that is gone there", 1, x.tell(0, 1, 1));
        dueText(x, 1, "ac");
        x.tell(0, 2, 0);
        dueText(x, 2, "abc");
        x.tell(0, 2, 1);
        dueText(x, 2, "ac");
        x.tell(1, 2, 1);
        dueText(x, 2, "ac");
        CHECKS.due("letters of the row", 3, x.count(2, 2));
    }

    private static void textOfGoneLettersAlone() {
        about("Terms, all letters gone", "they have places 0, 1, .. .");
        MarkedPages x = Pages.withText("ab");
        x.mark(0, 0, 2, Pages.ON_1);
        x.erase(0, 1);
        x.erase(0, 0);
        CHECKS.due("length(0)", 0, x.length(0));
        CHECKS.due("runs(0)", 0, x.runs(0));
        CHECKS.dueIndex("at(0, 0)", () -> x.at(0, 0));
        CHECKS.dueIndex("format(0, 0)", () -> x.format(0, 0));
        CHECKS.dueIndex("id(0, 0)", () -> x.id(0, 0));
        CHECKS.dueIndex("run(0, 0, 0)", () -> x.run(0, 0, 0));
        CHECKS.dueIndex("erase(0, 0)", () -> x.erase(0, 0));
        CHECKS.dueIndex("mark(0, 0, 1, 0)", () -> x.mark(0, 0, 1, 0));
        CHECKS.dueIndex("write(0, 1, c)", () -> x.write(0, 1, 'c'));
        CHECKS.due("write(0, 0, c)", 6, x.write(0, 0, 'c'));
        // Before the first letter of the marking, which is gone.
        dueFormats(x, 0, "0");
    }

    /** What a kind adds to a format, as a digit. */
    private static String has(int kind) {
        return Integer.toHexString(1 << kind);
    }

    private static void coverFromTheFirstLetter() {
        about("Terms", "a letter of the row that is not before its first letter");
        for (int kind = 0; kind < 4; kind++) {
            String has = has(kind);
            MarkedPages x = Pages.withTextOnAll("abc");
            x.mark(0, 1, 2, 2 * kind + 1);
            dueFormats(x, 0, "0" + has + "0");
            // Right before the first letter, on the page that marked and on one that does not know it yet.
            x.write(0, 1, 'x');
            x.write(1, 1, 'y');
            Pages.tellAll(x);
            dueTextOnAll(x, "axybc");
            dueFormatsOnAll(x, "000" + has + "0");

            MarkedPages y = Pages.withTextOnAll("ab");
            y.mark(0, 0, 1, 2 * kind + 1);
            y.write(2, 0, 'x');
            Pages.tellAll(y);
            dueTextOnAll(y, "xab");
            dueFormatsOnAll(y, "0" + has + "0");
        }
    }

    private static void coverBeforeTheEndLetter() {
        about("Terms", "for the kinds 0 and 1, is before its end letter");
        for (int kind = 0; kind < 2; kind++) {
            String has = has(kind);
            MarkedPages x = Pages.withTextOnAll("abcd");
            x.mark(0, 1, 2, 2 * kind + 1);
            dueFormats(x, 0, "0" + has + "00");
            // Right before the end letter and right behind it.
            x.write(1, 2, 'x');
            x.write(1, 4, 'y');
            x.write(0, 2, 'z');
            Pages.tellAll(x);
            dueTextOnAll(x, "abzxcyd");
            dueFormatsOnAll(x, "0" + has + has + has + "000");
        }
    }

    private static void coverUpToTheEndLetter() {
        about("Terms", "for the kinds 2 and 3, is not behind its end letter");
        for (int kind = 2; kind < 4; kind++) {
            String has = has(kind);
            MarkedPages x = Pages.withTextOnAll("abcd");
            x.mark(0, 1, 3, 2 * kind + 1);
            dueFormats(x, 0, "0" + has + has + "0");
            // Right before the end letter and right behind it.
            x.write(1, 2, 'x');
            x.write(1, 4, 'y');
            x.write(0, 3, 'z');
            Pages.tellAll(x);
            dueTextOnAll(x, "abxcyzd");
            dueFormatsOnAll(x, "0" + has + has + has + "000");
        }
    }

    private static void coverWithoutEnd() {
        about("promise 4", "none if to is the length of the text");
        for (int kind = 0; kind < 4; kind++) {
            String behind = kind < 2 ? has(kind) : "0";
            MarkedPages x = Pages.withTextOnAll("abc");
            x.erase(0, 2);
            x.mark(0, 1, 2, 2 * kind + 1);
            x.write(0, 2, 'd');
            dueText(x, 0, "abd");
            dueFormats(x, 0, "0" + has(kind) + behind);
            // Behind c, which is gone on page 0 but stands in its row: there is no end before it.
            x.write(1, 3, 'x');
            x.write(1, 4, 'y');
            Pages.tellAll(x);
            dueTextOnAll(x, "abdxy");
            dueFormatsOnAll(x, "0" + has(kind) + behind + behind + behind);
            // One place less has an end letter.
            x.mark(0, 0, 4, 2 * kind);
            dueFormats(x, 0, "0000" + behind);
            x.mark(0, 0, 5, 2 * kind);
            dueFormats(x, 0, "00000");
            x.write(0, 5, 'z');
            dueFormats(x, 0, "000000");
        }
    }

    private static void coverWhereFirstAndEndAreGone() {
        about("Terms, first and end letter gone", "It COVERS a letter of the row");
        for (int kind = 0; kind < 4; kind++) {
            String has = has(kind);
            String atEnd = kind < 2 ? "0" : has;
            MarkedPages x = Pages.withTextOnAll("abcdef");
            // The first letter is b; the end letter is e for all kinds.
            x.mark(0, 1, kind < 2 ? 4 : 5, 2 * kind + 1);
            dueFormats(x, 0, "0" + has + has + has + atEnd + "0");
            x.erase(0, 4);
            x.erase(0, 1);
            dueText(x, 0, "acdf");
            dueFormats(x, 0, "0" + has + has + "0");
            // On page 1 both are still there: right behind b, before and behind e.
            x.write(1, 2, 'p');
            x.write(1, 5, 'q');
            x.write(1, 7, 'r');
            Pages.tellAll(x);
            dueTextOnAll(x, "apcdqrf");
            dueFormatsOnAll(x, "0" + has + has + has + has + "00");
        }
    }

    private static void kindsThatALetterHas() {
        about("Terms", "if there are markings of this kind that cover it");
        MarkedPages x = Pages.withText("abc");
        dueFormats(x, 0, "000");
        x.mark(0, 1, 2, Pages.OFF_0);
        x.mark(0, 1, 2, Pages.OFF_3);
        dueFormats(x, 0, "000");
        x.mark(0, 0, 3, Pages.ON_3);
        dueFormats(x, 0, "888");
        // OFF of another kind takes nothing.
        x.mark(0, 0, 3, Pages.OFF_2);
        dueFormats(x, 0, "888");
        x.mark(0, 1, 2, Pages.OFF_3);
        dueFormats(x, 0, "808");
        x.mark(0, 0, 3, Pages.ON_3);
        x.mark(0, 0, 3, Pages.ON_3);
        dueFormats(x, 0, "888");
        // One OFF is enough, however often it was ON.
        x.mark(0, 0, 1, Pages.OFF_3);
        dueFormats(x, 0, "088");
        dueFormats(x, 1, "");
        x.tell(0, 1, 6);
        dueFormats(x, 1, "888");
    }

    private static void kindByTheGreatestId() {
        about("Terms", "the one of them with the greatest id says ON");
        for (int kind = 0; kind < 4; kind++) {
            String has = has(kind);
            // The same time: the greater page decides, whichever is told first.
            for (int winner = 1; winner < 3; winner++) {
                MarkedPages x = Pages.withTextOnAll("ab");
                x.mark(winner, 0, 2, 2 * kind + 1);
                x.mark(winner - 1, 0, 2, 2 * kind);
                x.tell(winner, winner - 1, 1);
                x.tell(winner - 1, winner, 2);
                Pages.tellAll(x);
                dueFormatsOnAll(x, has + has);
            }
            // A greater time decides over a greater page, also when the smaller one is told later.
            MarkedPages y = Pages.withTextOnAll("ab");
            y.mark(2, 0, 2, 2 * kind + 1);
            y.mark(0, 0, 2, 2 * kind + 1);
            y.mark(0, 0, 2, 2 * kind);
            y.tell(2, 0, 1);
            dueFormats(y, 0, "00");
            Pages.tellAll(y);
            dueFormatsOnAll(y, "00");
        }
    }

    private static void sumsOfFormats() {
        about("Terms", "the sum of 1, 2, 4, 8 for the kinds 0, 1, 2, 3 that it has");
        MarkedPages x = Pages.withText("abcdefghijklmnop");
        for (int p = 0; p < 16; p++) {
            for (int kind = 0; kind < 4; kind++) {
                if ((p >> kind) % 2 == 1) {
                    x.mark(0, p, p + 1, 2 * kind + 1);
                }
            }
        }
        dueFormats(x, 0, "0123456789abcdef");
        CHECKS.due("runs(0)", 16, x.runs(0));
        x.tell(0, 2, 90);
        for (int k = 0; k < 16; k++) {
            dueRun(x, 2, k, k, 1, k);
        }
    }

    private static void longestStretches() {
        about("Terms", "RUNS are the longest stretches of the text with the same format");
        MarkedPages x = Pages.withText("abcdef");
        // Two markings side by side make one run; the same format elsewhere makes another one.
        x.mark(0, 0, 1, Pages.ON_2);
        x.mark(0, 1, 2, Pages.ON_2);
        x.mark(0, 4, 6, Pages.ON_2);
        CHECKS.due("runs(0)", 3, x.runs(0));
        dueRun(x, 0, 0, 0, 2, 4);
        dueRun(x, 0, 1, 2, 2, 0);
        dueRun(x, 0, 2, 4, 2, 4);
        // A gone letter parts nothing.
        x.erase(0, 3);
        x.erase(0, 2);
        CHECKS.due("runs(0)", 1, x.runs(0));
        dueRun(x, 0, 0, 0, 4, 4);
    }

    private static void nothingWasMade() {
        about("promise 1", "Nothing was made.");
        MarkedPages x = new MarkedPages();
        for (int page = 0; page < 3; page++) {
            dueCounts(x, page, 0, 0, 0, 0);
            CHECKS.due("length", 0, x.length(page));
            CHECKS.due("runs", 0, x.runs(page));
            for (int other = 0; other < 3; other++) {
                CHECKS.due("alike", true, x.alike(page, other));
                CHECKS.due("tell", 0, x.tell(page, other, Integer.MAX_VALUE));
            }
        }
        // A full object before it changes nothing for a new one.
        Pages.withText("a".repeat(90));
        MarkedPages y = new MarkedPages();
        dueCounts(y, 0, 0, 0, 0, 0);
        CHECKS.due("write", 1, y.write(0, 0, 'a'));
    }

    private static void writeAtBothEnds() {
        about("promise 2", "behind the letter at place p - 1 of the text (none for p = 0)");
        MarkedPages x = new MarkedPages();
        CHECKS.due("write(1, 0, b)", 1, x.write(1, 0, 'b'));
        CHECKS.due("write(1, 1, c)", 2, x.write(1, 1, 'c'));
        CHECKS.due("write(1, 0, a)", 3, x.write(1, 0, 'a'));
        CHECKS.due("write(1, 3, d)", 4, x.write(1, 3, 'd'));
        dueText(x, 1, "abcd");
        // Behind which letter it is shows where another page writes there too.
        x.tell(1, 0, 90);
        x.tell(1, 2, 90);
        x.erase(0, 0);
        x.write(0, 0, '<');
        x.write(0, 4, '>');
        x.write(2, 0, '2');
        x.write(2, 5, '3');
        Pages.tellAll(x);
        dueTextOnAll(x, "<2bcd>3");
    }

    private static void eraseTheLastOne() {
        about("promise 3", "of the letter at place p: that letter");
        MarkedPages x = Pages.withText("abc");
        CHECKS.due("erase(0, 2)", 'c', x.erase(0, 2));
        CHECKS.due("erase(0, 0)", 'a', x.erase(0, 0));
        CHECKS.due("erase(0, 0)", 'b', x.erase(0, 0));
        CHECKS.dueIndex("erase(0, 0)", () -> x.erase(0, 0));
        dueCounts(x, 0, 6, 6, 3, 0);
        dueText(x, 0, "");
    }

    private static void markOfOneLetterAndOfAll() {
        about("promise 4", "for the places from .. to - 1");
        for (int kind = 0; kind < 4; kind++) {
            String has = has(kind);
            String[] wanted = {has + "00", "0" + has + "0", "00" + has};
            for (int p = 0; p < 3; p++) {
                MarkedPages x = Pages.withText("abc");
                CHECKS.due("mark of one letter", 4, x.mark(0, p, p + 1, 2 * kind + 1));
                dueFormats(x, 0, wanted[p]);
                CHECKS.due("mark of all", 5, x.mark(0, 0, 3, 2 * kind));
                dueFormats(x, 0, "000");
            }
            MarkedPages y = Pages.withText("a");
            CHECKS.due("mark of the only letter", 2, y.mark(0, 0, 1, 2 * kind + 1));
            dueFormats(y, 0, has);
            dueCounts(y, 0, 2, 2, 1, 1);
        }
    }

    private static void markWhatSaysOnOrOff() {
        about("promise 4", "what is 2 * kind + 1 for ON, 2 * kind for OFF");
        for (int what = 0; what < 8; what++) {
            MarkedPages x = Pages.withText("a");
            x.mark(0, 0, 1, what);
            CHECKS.due("format after " + what, what % 2 == 0 ? 0 : 1 << what / 2, x.format(0, 0));

            MarkedPages y = Pages.withText("a");
            for (int kind = 0; kind < 4; kind++) {
                y.mark(0, 0, 1, 2 * kind + 1);
            }
            y.mark(0, 0, 1, what);
            CHECKS.due("format after all and " + what, what % 2 == 0 ? 15 - (1 << what / 2) : 15, y.format(0, 0));
        }
    }

    private static void tellNone() {
        about("promise 5, none to tell", "the first n that the other one does not know");
        MarkedPages x = Pages.withText("ab");
        CHECKS.due("tell(0, 1, 0)", 0, x.tell(0, 1, 0));
        dueCounts(x, 1, 0, 0, 0, 0);
        CHECKS.due("tell(1, 0, 90), by one who knows none", 0, x.tell(1, 0, 90));
        CHECKS.due("tell(1, 2, 1), among those who know none", 0, x.tell(1, 2, 1));
        CHECKS.due("tell(0, 1, 2)", 2, x.tell(0, 1, 2));
        CHECKS.due("tell(0, 1, 2), again", 0, x.tell(0, 1, 2));
        CHECKS.due("tell(1, 0, 2), back", 0, x.tell(1, 0, 2));
        dueText(x, 0, "ab");
        dueText(x, 1, "ab");
    }

    private static void tellFewerThanAsked() {
        about("promise 5", "(all, if there are fewer)");
        for (int n : new int[] {3, 4, 5, 90, 91, Integer.MAX_VALUE - 1, Integer.MAX_VALUE}) {
            MarkedPages x = Pages.withText("abc");
            CHECKS.due("tell(0, 1, " + n + ") of 3", 3, x.tell(0, 1, n));
            dueText(x, 1, "abc");
            CHECKS.due("tell(0, 1, " + n + ") of 0", 0, x.tell(0, 1, n));
        }
        for (int n = 0; n < 3; n++) {
            MarkedPages x = Pages.withText("abc");
            CHECKS.due("tell(0, 1, " + n + ") of 3", n, x.tell(0, 1, n));
            dueText(x, 1, "abc".substring(0, n));
            CHECKS.due("tell(0, 1, 3) of the rest", 3 - n, x.tell(0, 1, 3));
            dueText(x, 1, "abc");
        }
    }

    private static void tellSkipsWhatIsKnown() {
        about("promise 5", "in the order in which it came to know them, the first n that the other one does not know");
        MarkedPages x = Pages.withText("abc");
        x.tell(0, 1, 3);
        x.write(0, 3, 'd');
        x.erase(0, 0);
        // The three that page 1 knows are not counted.
        CHECKS.due("tell(0, 1, 1)", 1, x.tell(0, 1, 1));
        dueText(x, 1, "abcd");
        CHECKS.due("tell(0, 1, 1)", 1, x.tell(0, 1, 1));
        dueText(x, 1, "bcd");

        // The order of coming to know is not that of the ids, the row or the making.
        MarkedPages y = new MarkedPages();
        y.write(2, 0, 'x');
        y.write(2, 1, 'y');
        y.write(0, 0, 'a');
        y.write(0, 0, 'b');
        y.tell(2, 0, 1);
        y.write(0, 0, 'c');
        y.tell(2, 0, 1);
        String[] texts = {"a", "ba", "bxa", "cbxa", "cbxya"};
        for (String text : texts) {
            CHECKS.due("tell(0, 1, 1)", 1, y.tell(0, 1, 1));
            dueText(y, 1, text);
        }
        CHECKS.due("tell(0, 1, 1)", 0, y.tell(0, 1, 1));
    }

    private static void tellItself() {
        about("promise 5", "A page tells another one (or itself)");
        MarkedPages x = Pages.withText("ab");
        x.tell(0, 1, 1);
        for (int page = 0; page < 3; page++) {
            for (int n : new int[] {0, 1, 90, Integer.MAX_VALUE}) {
                CHECKS.due("tell(" + page + ", " + page + ", " + n + ")", 0, x.tell(page, page, n));
            }
            dueCounts(x, page, 2 - page, 2 - page, 2 - page, 0);
        }
    }

    private static void tellAtTheLimit() {
        about("promise 5, 90 operations", "How many they were.");
        MarkedPages x = Pages.withText("a".repeat(45));
        for (int i = 0; i < 45; i++) {
            x.mark(0, i, i + 1, Pages.ON_2);
        }
        CHECKS.due("tell(0, 1, 89)", 89, x.tell(0, 1, 89));
        CHECKS.due("alike(0, 1)", false, x.alike(0, 1));
        dueFormats(x, 1, "4".repeat(44) + "0");
        CHECKS.due("tell(0, 1, 89)", 1, x.tell(0, 1, 89));
        CHECKS.due("alike(0, 1)", true, x.alike(0, 1));
        CHECKS.due("tell(1, 2, 90)", 90, x.tell(1, 2, 90));
        dueCounts(x, 2, 90, 90, 45, 45);
        CHECKS.dueState("write(2, 0, b)", () -> x.write(2, 0, 'b'));
    }

    private static void lengthAtBothLimits() {
        about("promise 6", "The length of a page's text.");
        MarkedPages x = new MarkedPages();
        CHECKS.due("length(0)", 0, x.length(0));
        for (int i = 1; i <= 90; i++) {
            x.write(0, 0, 'a');
            CHECKS.due("length(0)", i, x.length(0));
        }
        CHECKS.due("length(1)", 0, x.length(1));
        x.tell(0, 1, 90);
        CHECKS.due("length(1)", 90, x.length(1));
    }

    private static void lettersAtBothEnds() {
        about("promises 7 to 9, first, last and only letter", "the letter at place p");
        MarkedPages x = Pages.withText("abc");
        x.mark(0, 0, 1, Pages.ON_2);
        x.mark(0, 2, 3, Pages.ON_3);
        CHECKS.due("at(0, 0)", 'a', x.at(0, 0));
        CHECKS.due("format(0, 0)", 4, x.format(0, 0));
        CHECKS.due("id(0, 0)", 4, x.id(0, 0));
        CHECKS.due("at(0, 2)", 'c', x.at(0, 2));
        CHECKS.due("format(0, 2)", 8, x.format(0, 2));
        CHECKS.due("id(0, 2)", 12, x.id(0, 2));
        x.erase(0, 0);
        x.erase(0, 0);
        CHECKS.due("at(0, 0), the only one", 'c', x.at(0, 0));
        CHECKS.due("format(0, 0), the only one", 8, x.format(0, 0));
        CHECKS.due("id(0, 0), the only one", 12, x.id(0, 0));
        CHECKS.dueIndex("at(0, 1)", () -> x.at(0, 1));
        CHECKS.dueIndex("format(0, 1)", () -> x.format(0, 1));
        CHECKS.dueIndex("id(0, 1)", () -> x.id(0, 1));
    }

    private static void leastAndGreatestIds() {
        about("promise 9", "4 * time + page");
        for (int page = 0; page < 3; page++) {
            MarkedPages x = new MarkedPages();
            for (int i = 0; i < 90; i++) {
                x.write(page, i, 'a');
            }
            for (int p = 0; p < 90; p++) {
                CHECKS.due("id(" + page + ", " + p + ")", 4 * (p + 1) + page, x.id(page, p));
            }
            int other = (page + 1) % 3;
            x.tell(page, other, 90);
            CHECKS.due("the least id, told", 4 + page, x.id(other, 0));
            CHECKS.due("the greatest id, told", 360 + page, x.id(other, 89));
        }
    }

    private static void fewestAndMostRuns() {
        about("promise 10", "How many runs a page has.");
        MarkedPages x = new MarkedPages();
        CHECKS.due("runs(0) without letters", 0, x.runs(0));
        x.write(0, 0, 'a');
        CHECKS.due("runs(0) of one letter", 1, x.runs(0));
        for (int i = 1; i < 60; i++) {
            x.write(0, 0, 'a');
        }
        CHECKS.due("runs(0) of 60 letters", 1, x.runs(0));
        for (int i = 0; i < 30; i++) {
            x.mark(0, 2 * i, 2 * i + 1, Pages.ON_3);
        }
        CHECKS.due("runs(0) of 60 letters, each for itself", 60, x.runs(0));
        dueRun(x, 0, 58, 58, 1, 8);
        dueRun(x, 0, 59, 59, 1, 0);
        CHECKS.dueIndex("run(0, 60, 1)", () -> x.run(0, 60, 1));
    }

    private static void firstAndLastRun() {
        about("promise 11", "0: the place of its first letter, 1: how many it has, 2: their format");
        MarkedPages x = Pages.withText("abcde");
        dueRun(x, 0, 0, 0, 5, 0);
        x.mark(0, 3, 5, Pages.ON_1);
        dueRun(x, 0, 0, 0, 3, 0);
        dueRun(x, 0, 1, 3, 2, 2);
        x.mark(0, 0, 1, Pages.ON_3);
        dueRun(x, 0, 0, 0, 1, 8);
        dueRun(x, 0, 1, 1, 2, 0);
        dueRun(x, 0, 2, 3, 2, 2);
        x.erase(0, 0);
        dueRun(x, 0, 0, 0, 2, 0);
        dueRun(x, 0, 1, 2, 2, 2);
        CHECKS.dueIndex("run(0, 2, 0)", () -> x.run(0, 2, 0));
    }

    private static void countWithout() {
        about("promise 12", "1: the greatest time of these (0 without)");
        MarkedPages x = Pages.withText("ab");
        dueCounts(x, 1, 0, 0, 0, 0);
        x.tell(0, 1, 1);
        dueCounts(x, 1, 1, 1, 1, 0);
        x.mark(0, 0, 2, Pages.OFF_1);
        dueCounts(x, 0, 3, 3, 2, 1);
        x.erase(0, 0);
        dueCounts(x, 0, 4, 4, 2, 1);
        // The greatest time is not the last that was told.
        x.write(2, 0, 'x');
        x.tell(2, 0, 1);
        dueCounts(x, 0, 5, 4, 3, 1);
        dueCounts(x, 2, 1, 1, 1, 0);
    }

    private static void alikeOfFewAndMany() {
        about("promise 13", "Whether two pages know the same operations.");
        MarkedPages x = new MarkedPages();
        CHECKS.due("alike of two that know none", true, x.alike(1, 2));
        for (int i = 0; i < 90; i++) {
            x.write(0, i, 'a');
        }
        CHECKS.due("alike(0, 0)", true, x.alike(0, 0));
        CHECKS.due("alike of 90 and none", false, x.alike(0, 1));
        CHECKS.due("alike of none and 90", false, x.alike(1, 0));
        x.tell(0, 1, 89);
        CHECKS.due("alike of 90 and 89", false, x.alike(0, 1));
        CHECKS.due("alike of 89 and 90", false, x.alike(1, 0));
        x.tell(0, 1, 1);
        CHECKS.due("alike of 90 and 90", true, x.alike(0, 1));

        // As many, the same letter, the same time and the same text; but made on two pages.
        MarkedPages y = new MarkedPages();
        y.write(1, 0, 'a');
        y.write(2, 0, 'a');
        CHECKS.due("alike(1, 2)", false, y.alike(1, 2));
        CHECKS.due("alike(2, 1)", false, y.alike(2, 1));
        y.tell(1, 2, 1);
        CHECKS.due("alike(1, 2), one told", false, y.alike(1, 2));
        y.tell(2, 1, 1);
        CHECKS.due("alike(1, 2), both told", true, y.alike(1, 2));
        // Erasings and markings that show nothing new are operations too.
        y.mark(1, 0, 1, Pages.OFF_0);
        CHECKS.due("alike(1, 2) after a marking", false, y.alike(1, 2));
        y.mark(2, 0, 1, Pages.OFF_0);
        CHECKS.due("alike(1, 2) after a marking on each", false, y.alike(1, 2));
    }
}
