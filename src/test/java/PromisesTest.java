/** For each promise ordinary calls, the edges that the document names, and wrong calls. */
public final class PromisesTest {
    private static final Checks CHECKS = new Checks();
    private static final int[] NO_PAGES = {-1, 3, 4, Integer.MIN_VALUE, Integer.MAX_VALUE};

    public static void main(String[] args) {
        newObject();
        newObjectsAreApart();
        writeTimes();
        writePlaces();
        writeOrderOfTheRow();
        writeBehindALetterWithGoneOnesBehindIt();
        writeRefuses();
        erase();
        eraseByTwoPages();
        eraseRefuses();
        markKindsThatEndBefore();
        markKindsThatEndWith();
        markEndsThatAreGone();
        markRefuses();
        refusalsWithGoneLetters();
        limitOfOperations();
        limitIsForAllPagesTogether();
        tell();
        tellInTheOrderOfComingToKnow();
        tellRefuses();
        length();
        at();
        format();
        formatOfTheGreatestId();
        id();
        runs();
        run();
        count();
        alike();
        CHECKS.end();
    }

    private static void dueText(MarkedPages x, int page, String want) {
        CHECKS.due("the text of page " + page, want, Pages.text(x, page));
    }

    private static void dueFormats(MarkedPages x, int page, String want) {
        CHECKS.due("the formats of page " + page, want, Pages.formats(x, page));
    }

    /** A call that threw has made nothing. */
    private static void dueMade(MarkedPages x, int page, int want) {
        CHECKS.due("count(" + page + ", 0)", want, x.count(page, 0));
    }

    private static void newObject() {
        CHECKS.about("promise 1");
        MarkedPages x = new MarkedPages();
        for (int page = 0; page < 3; page++) {
            CHECKS.due("length", 0, x.length(page));
            CHECKS.due("runs", 0, x.runs(page));
            for (int what = 0; what < 4; what++) {
                CHECKS.due("count " + what, 0, x.count(page, what));
            }
            for (int other = 0; other < 3; other++) {
                CHECKS.due("alike", true, x.alike(page, other));
                CHECKS.due("tell", 0, x.tell(page, other, 90));
            }
        }
        CHECKS.due("the first time", 1, x.write(2, 0, 'a'));
    }

    private static void newObjectsAreApart() {
        MarkedPages x = Pages.withText("abc");
        MarkedPages y = new MarkedPages();
        CHECKS.due("length of another object", 0, y.length(0));
        y.write(0, 0, 'z');
        dueText(x, 0, "abc");
    }

    private static void writeTimes() {
        CHECKS.about("promise 2, times");
        MarkedPages x = new MarkedPages();
        CHECKS.due("write", 1, x.write(0, 0, 'a'));
        CHECKS.due("write", 2, x.write(0, 0, 'b'));
        CHECKS.due("write on a page that knows nothing", 1, x.write(1, 0, 'c'));
        x.tell(0, 1, 90);
        CHECKS.due("write after hearing", 3, x.write(1, 0, 'd'));
        x.erase(1, 0);
        x.mark(1, 0, 1, Pages.ON_0);
        CHECKS.due("write after erasing and marking", 6, x.write(1, 0, 'e'));
        CHECKS.due("write on the page that heard nothing", 3, x.write(0, 0, 'f'));
        x.tell(0, 1, 90);
        CHECKS.due("write after hearing of a smaller time", 7, x.write(1, 0, 'g'));
    }

    private static void writePlaces() {
        CHECKS.about("promise 2, places");
        MarkedPages x = Pages.withText("ac");
        x.write(0, 1, 'b');
        x.write(0, 0, '<');
        x.write(0, 4, '>');
        dueText(x, 0, "<abc>");
        dueText(x, 1, "");
        x.write(0, 0, '\u0000');
        x.write(0, 6, '\uffff');
        dueText(x, 0, "\u0000<abc>\uffff");
    }

    private static void writeOrderOfTheRow() {
        CHECKS.about("promise 2, the row");
        MarkedPages x = new MarkedPages();
        x.write(0, 0, 'a');
        x.write(0, 1, 'b');
        x.write(1, 0, 'k');
        x.write(1, 1, 'l');
        x.write(2, 0, 'x');
        x.write(2, 1, 'y');
        Pages.tellAll(x);
        for (int page = 0; page < 3; page++) {
            dueText(x, page, "xyklab");
        }
        // Behind l (time 2) and behind none, at the same time on all pages.
        x.write(0, 4, '0');
        x.write(0, 5, '!');
        x.write(1, 4, '1');
        x.write(2, 4, '2');
        x.write(2, 0, '3');
        x.write(1, 0, '4');
        Pages.tellAll(x);
        for (int page = 0; page < 3; page++) {
            dueText(x, page, "34xykl210!ab");
        }
    }

    private static void writeBehindALetterWithGoneOnesBehindIt() {
        CHECKS.about("promise 2, gone letters");
        MarkedPages x = Pages.withText("abcd");
        x.tell(0, 1, 90);
        x.erase(0, 1);
        x.erase(0, 1);
        x.write(0, 1, 'x');
        dueText(x, 0, "axd");
        x.tell(0, 1, 4);
        x.write(1, 3, 'y');
        x.tell(0, 1, 90);
        // x stands right behind a, before b, which is gone.
        dueText(x, 1, "axdy");
        x.write(1, 0, 'z');
        x.erase(1, 1);
        x.write(1, 0, 'w');
        dueText(x, 1, "wzxdy");

        MarkedPages y = Pages.withText("abc");
        y.tell(0, 1, 90);
        y.erase(0, 1);
        y.write(0, 1, 'x');
        y.write(1, 2, 'y');
        Pages.tellAll(y);
        dueText(y, 0, "axyc");
        dueText(y, 1, "axyc");
    }

    private static void writeRefuses() {
        CHECKS.about("promise 2, refusals");
        MarkedPages x = Pages.withText("ab");
        for (int page : NO_PAGES) {
            CHECKS.dueArgument("write(" + page + ", 0, c)", () -> x.write(page, 0, 'c'));
            CHECKS.dueArgument("write(" + page + ", -1, c)", () -> x.write(page, -1, 'c'));
        }
        for (int p : new int[] {-1, 3, Integer.MIN_VALUE, Integer.MAX_VALUE}) {
            CHECKS.dueIndex("write(0, " + p + ", c)", () -> x.write(0, p, 'c'));
        }
        CHECKS.dueIndex("write(1, 1, c)", () -> x.write(1, 1, 'c'));
        dueMade(x, 0, 2);
        CHECKS.due("write(0, 2, c)", 3, x.write(0, 2, 'c'));
    }

    private static void erase() {
        CHECKS.about("promise 3");
        MarkedPages x = Pages.withText("abcd");
        CHECKS.due("erase(0, 1)", 'b', x.erase(0, 1));
        CHECKS.due("erase(0, 2)", 'd', x.erase(0, 2));
        CHECKS.due("erase(0, 0)", 'a', x.erase(0, 0));
        dueText(x, 0, "c");
        CHECKS.due("letters of the row", 4, x.count(0, 2));
        CHECKS.due("the time of the last erasing", 7, x.count(0, 1));
        x.tell(0, 2, 5);
        dueText(x, 2, "acd");
        CHECKS.due("erase(0, 0)", 'c', x.erase(0, 0));
        CHECKS.due("length", 0, x.length(0));
        CHECKS.due("runs", 0, x.runs(0));
    }

    private static void eraseByTwoPages() {
        MarkedPages x = Pages.withText("ab");
        Pages.tellAll(x);
        CHECKS.due("erase(1, 0)", 'a', x.erase(1, 0));
        CHECKS.due("erase(2, 0)", 'a', x.erase(2, 0));
        CHECKS.due("alike", false, x.alike(1, 2));
        Pages.tellAll(x);
        for (int page = 0; page < 3; page++) {
            dueText(x, page, "b");
            dueMade(x, page, 4);
        }
    }

    private static void eraseRefuses() {
        CHECKS.about("promise 3, refusals");
        MarkedPages x = Pages.withText("ab");
        for (int page : NO_PAGES) {
            CHECKS.dueArgument("erase(" + page + ", 0)", () -> x.erase(page, 0));
            CHECKS.dueArgument("erase(" + page + ", -1)", () -> x.erase(page, -1));
        }
        for (int p : new int[] {-1, 2, Integer.MIN_VALUE, Integer.MAX_VALUE}) {
            CHECKS.dueIndex("erase(0, " + p + ")", () -> x.erase(0, p));
        }
        CHECKS.dueIndex("erase(1, 0)", () -> x.erase(1, 0));
        dueMade(x, 0, 2);
        dueText(x, 0, "ab");
    }

    private static void markKindsThatEndBefore() {
        CHECKS.about("promise 4, kinds 0 and 1");
        for (int kind = 0; kind < 2; kind++) {
            String has = kind == 0 ? "1" : "2";
            MarkedPages x = Pages.withText("abcd");
            CHECKS.due("mark", 5, x.mark(0, 1, 3, 2 * kind + 1));
            dueFormats(x, 0, "0" + has + has + "0");
            x.write(0, 3, 'x');
            dueFormats(x, 0, "0" + has + has + has + "0");
            x.write(0, 1, 'y');
            dueFormats(x, 0, "00" + has + has + has + "0");

            MarkedPages y = Pages.withText("ab");
            y.mark(0, 1, 2, 2 * kind + 1);
            y.write(0, 2, 'c');
            dueFormats(y, 0, "0" + has + has);
            CHECKS.due("mark", 5, y.mark(0, 0, 3, 2 * kind));
            dueFormats(y, 0, "000");
        }
    }

    private static void markKindsThatEndWith() {
        CHECKS.about("promise 4, kinds 2 and 3");
        for (int kind = 2; kind < 4; kind++) {
            String has = kind == 2 ? "4" : "8";
            MarkedPages x = Pages.withText("abcd");
            CHECKS.due("mark", 5, x.mark(0, 1, 3, 2 * kind + 1));
            dueFormats(x, 0, "0" + has + has + "0");
            x.write(0, 3, 'x');
            dueFormats(x, 0, "0" + has + has + "00");
            x.write(0, 2, 'y');
            dueFormats(x, 0, "0" + has + has + has + "00");

            MarkedPages y = Pages.withText("ab");
            y.mark(0, 1, 2, 2 * kind + 1);
            y.write(0, 2, 'c');
            dueFormats(y, 0, "0" + has + "0");
            CHECKS.due("mark", 5, y.mark(0, 0, 2, 2 * kind));
            dueFormats(y, 0, "000");
        }
    }

    private static void markEndsThatAreGone() {
        CHECKS.about("promise 4, gone letters");
        MarkedPages x = Pages.withText("abcdef");
        x.mark(0, 1, 4, Pages.ON_0);
        x.mark(0, 1, 4, Pages.ON_2);
        dueFormats(x, 0, "055500");
        x.tell(0, 1, 90);
        x.erase(0, 4);
        x.erase(0, 3);
        x.erase(0, 1);
        dueText(x, 0, "acf");
        dueFormats(x, 0, "050");
        // Right behind c: before d, which is gone, so before both ends.
        x.write(0, 2, 'x');
        dueFormats(x, 0, "0550");
        // Right behind a: before b, which is gone, so before the first letter.
        x.write(0, 1, 'y');
        dueFormats(x, 0, "00550");
        // Another page writes behind d, which is still there, and before e.
        x.write(1, 4, 'z');
        Pages.tellAll(x);
        dueText(x, 0, "aycxzf");
        dueFormats(x, 0, "005510");
        dueFormats(x, 2, "005510");
    }

    private static void markRefuses() {
        CHECKS.about("promise 4, refusals");
        MarkedPages x = Pages.withText("abc");
        for (int page : NO_PAGES) {
            CHECKS.dueArgument("mark(" + page + ", 0, 1, 1)", () -> x.mark(page, 0, 1, Pages.ON_0));
            CHECKS.dueArgument("mark(" + page + ", 1, 1, 1)", () -> x.mark(page, 1, 1, Pages.ON_0));
        }
        for (int what : new int[] {-1, 8, Integer.MIN_VALUE, Integer.MAX_VALUE}) {
            CHECKS.dueArgument("mark(0, 0, 1, " + what + ")", () -> x.mark(0, 0, 1, what));
            CHECKS.dueArgument("mark(0, 1, 1, " + what + ")", () -> x.mark(0, 1, 1, what));
        }
        int[][] stretches = {{-1, 1}, {0, 0}, {2, 1}, {0, 4}, {3, 3}, {3, 4}, {-1, -1}, {0, -1},
            {Integer.MIN_VALUE, 1}, {0, Integer.MAX_VALUE}, {Integer.MAX_VALUE, Integer.MIN_VALUE}};
        for (int[] stretch : stretches) {
            for (int what = Pages.OFF_0; what <= Pages.ON_3; what++) {
                int kindAndWay = what;
                CHECKS.dueIndex("mark(0, " + stretch[0] + ", " + stretch[1] + ", " + what + ")",
                        () -> x.mark(0, stretch[0], stretch[1], kindAndWay));
            }
        }
        CHECKS.dueIndex("mark(1, 0, 1, 1)", () -> x.mark(1, 0, 1, Pages.ON_0));
        dueMade(x, 0, 3);
        for (int what = Pages.OFF_0; what <= Pages.ON_3; what++) {
            CHECKS.due("mark(0, 2, 3, " + what + ")", 4 + what, x.mark(0, 2, 3, what));
        }
    }

    /** The row is longer than the text here: places are those of the text. */
    private static void refusalsWithGoneLetters() {
        CHECKS.about("promises 2 to 4, refusals with gone letters");
        MarkedPages x = Pages.withText("abc");
        x.erase(0, 1);
        CHECKS.dueIndex("write(0, 3, d)", () -> x.write(0, 3, 'd'));
        CHECKS.dueIndex("erase(0, 2)", () -> x.erase(0, 2));
        CHECKS.dueIndex("mark(0, 0, 3, 1)", () -> x.mark(0, 0, 3, Pages.ON_0));
        CHECKS.dueIndex("mark(0, 2, 3, 5)", () -> x.mark(0, 2, 3, Pages.ON_2));
        dueMade(x, 0, 4);
        CHECKS.due("mark(0, 1, 2, 5)", 5, x.mark(0, 1, 2, Pages.ON_2));
        CHECKS.due("write(0, 2, d)", 6, x.write(0, 2, 'd'));
        dueText(x, 0, "acd");
        dueFormats(x, 0, "040");
    }

    private static void limitOfOperations() {
        CHECKS.about("promises 2 to 4, 90 operations");
        MarkedPages x = new MarkedPages();
        for (int i = 0; i < 90; i++) {
            CHECKS.due("write", i + 1, x.write(0, i, 'a'));
        }
        CHECKS.dueState("write(0, 0, b)", () -> x.write(0, 0, 'b'));
        CHECKS.dueState("write(1, 0, b)", () -> x.write(1, 0, 'b'));
        CHECKS.dueState("write(0, 90, b)", () -> x.write(0, 90, 'b'));
        CHECKS.dueIndex("write(0, 91, b)", () -> x.write(0, 91, 'b'));
        CHECKS.dueArgument("write(3, 0, b)", () -> x.write(3, 0, 'b'));
        CHECKS.dueState("erase(0, 89)", () -> x.erase(0, 89));
        CHECKS.dueIndex("erase(0, 90)", () -> x.erase(0, 90));
        CHECKS.dueArgument("erase(-1, 0)", () -> x.erase(-1, 0));
        CHECKS.dueState("mark(0, 0, 90, 1)", () -> x.mark(0, 0, 90, Pages.ON_0));
        CHECKS.dueIndex("mark(0, 0, 91, 1)", () -> x.mark(0, 0, 91, Pages.ON_0));
        CHECKS.dueArgument("mark(0, 0, 1, 8)", () -> x.mark(0, 0, 1, 8));
        dueMade(x, 0, 90);
        CHECKS.due("length", 90, x.length(0));
        CHECKS.due("runs", 1, x.runs(0));
        CHECKS.due("tell", 90, x.tell(0, 1, 90));
        CHECKS.due("alike", true, x.alike(0, 1));
    }

    private static void limitIsForAllPagesTogether() {
        MarkedPages x = new MarkedPages();
        for (int i = 0; i < 30; i++) {
            CHECKS.due("write on 0", i + 1, x.write(0, 0, 'a'));
            CHECKS.due("write on 1", i + 1, x.write(1, 0, 'b'));
        }
        x.tell(0, 2, 90);
        for (int i = 0; i < 15; i++) {
            x.mark(2, 0, 1, Pages.ON_3);
            x.erase(2, 0);
        }
        for (int page = 0; page < 3; page++) {
            int writer = page;
            CHECKS.dueState("write(" + page + ", 0, c)", () -> x.write(writer, 0, 'c'));
        }
        Pages.tellAll(x);
        for (int page = 0; page < 3; page++) {
            dueMade(x, page, 90);
            CHECKS.due("count(2)", 60, x.count(page, 2));
            CHECKS.due("count(3)", 15, x.count(page, 3));
            CHECKS.due("length", 45, x.length(page));
        }
    }

    private static void tell() {
        CHECKS.about("promise 5");
        MarkedPages x = Pages.withText("abcd");
        CHECKS.due("tell(0, 1, 0)", 0, x.tell(0, 1, 0));
        dueMade(x, 1, 0);
        CHECKS.due("tell(0, 1, 3)", 3, x.tell(0, 1, 3));
        dueText(x, 1, "abc");
        CHECKS.due("tell(0, 1, 3)", 1, x.tell(0, 1, 3));
        dueText(x, 1, "abcd");
        CHECKS.due("tell(0, 1, 3)", 0, x.tell(0, 1, 3));
        CHECKS.due("tell(0, 0, 3)", 0, x.tell(0, 0, 3));
        CHECKS.due("tell(2, 0, 3)", 0, x.tell(2, 0, 3));
        CHECKS.due("tell(0, 2, the greatest int)", 4, x.tell(0, 2, Integer.MAX_VALUE));
        x.erase(2, 0);
        x.mark(2, 0, 1, Pages.ON_1);
        CHECKS.due("tell(2, 0, 1)", 1, x.tell(2, 0, 1));
        dueText(x, 0, "bcd");
        dueFormats(x, 0, "000");
        CHECKS.due("tell(2, 0, 2)", 1, x.tell(2, 0, 2));
        dueFormats(x, 0, "200");
        dueText(x, 1, "abcd");
    }

    private static void tellInTheOrderOfComingToKnow() {
        MarkedPages x = new MarkedPages();
        x.write(1, 0, 'a');
        x.write(1, 1, 'b');
        x.write(0, 0, 'k');
        x.tell(1, 0, 1);
        x.write(0, 2, 'm');
        x.tell(1, 0, 1);
        dueText(x, 0, "abkm");
        // Page 0 came to know k, a, m, b in this order.
        String[] texts = {"k", "ak", "akm", "abkm"};
        for (String text : texts) {
            CHECKS.due("tell(0, 2, 1)", 1, x.tell(0, 2, 1));
            dueText(x, 2, text);
        }
        CHECKS.due("tell(0, 1, 1)", 1, x.tell(0, 1, 1));
        dueText(x, 1, "abk");
        CHECKS.due("tell(0, 1, 1)", 1, x.tell(0, 1, 1));
        dueText(x, 1, "abkm");

        // What was heard is told on in the order of hearing.
        MarkedPages y = new MarkedPages();
        y.write(2, 0, 'x');
        y.tell(2, 1, 1);
        y.write(0, 0, 'y');
        y.tell(0, 1, 1);
        y.tell(1, 0, 1);
        y.tell(1, 2, 1);
        CHECKS.due("all know the same", true, y.alike(0, 1) && y.alike(1, 2));
        dueText(y, 1, "xy");
    }

    private static void tellRefuses() {
        CHECKS.about("promise 5, refusals");
        MarkedPages x = Pages.withText("ab");
        for (int page : NO_PAGES) {
            CHECKS.dueArgument("tell(" + page + ", 1, 1)", () -> x.tell(page, 1, 1));
            CHECKS.dueArgument("tell(0, " + page + ", 1)", () -> x.tell(0, page, 1));
        }
        CHECKS.dueArgument("tell(0, 1, -1)", () -> x.tell(0, 1, -1));
        CHECKS.dueArgument("tell(0, 0, -1)", () -> x.tell(0, 0, -1));
        CHECKS.dueArgument("tell(0, 1, the least int)", () -> x.tell(0, 1, Integer.MIN_VALUE));
        dueMade(x, 1, 0);
    }

    private static void length() {
        CHECKS.about("promise 6");
        MarkedPages x = Pages.withText("abc");
        CHECKS.due("length(0)", 3, x.length(0));
        CHECKS.due("length(1)", 0, x.length(1));
        x.erase(0, 0);
        x.mark(0, 0, 2, Pages.ON_0);
        CHECKS.due("length(0)", 2, x.length(0));
        for (int page : NO_PAGES) {
            CHECKS.dueArgument("length(" + page + ")", () -> x.length(page));
        }
    }

    /** The refusals that at, format and id share. */
    private static void duePlaceRefusals(MarkedPages x, int beyond, PlaceCall call) {
        for (int page : NO_PAGES) {
            CHECKS.dueArgument("(" + page + ", 0)", () -> call.make(page, 0));
            CHECKS.dueArgument("(" + page + ", -1)", () -> call.make(page, -1));
        }
        for (int p : new int[] {-1, beyond, beyond + 1, Integer.MIN_VALUE, Integer.MAX_VALUE}) {
            CHECKS.dueIndex("(0, " + p + ")", () -> call.make(0, p));
        }
        CHECKS.due("length of page 1", 0, x.length(1));
        CHECKS.dueIndex("(1, 0)", () -> call.make(1, 0));
    }

    private interface PlaceCall {
        Object make(int page, int p);
    }

    private static void at() {
        CHECKS.about("promise 7");
        MarkedPages x = Pages.withText("abc");
        CHECKS.due("at(0, 0)", 'a', x.at(0, 0));
        CHECKS.due("at(0, 2)", 'c', x.at(0, 2));
        x.erase(0, 1);
        CHECKS.due("at(0, 1)", 'c', x.at(0, 1));
        duePlaceRefusals(x, 2, x::at);
    }

    private static void format() {
        CHECKS.about("promise 8");
        MarkedPages x = Pages.withText("abcde");
        x.mark(0, 0, 2, Pages.ON_0);
        x.mark(0, 1, 3, Pages.ON_1);
        x.mark(0, 1, 4, Pages.ON_2);
        x.mark(0, 1, 5, Pages.ON_3);
        dueFormats(x, 0, "1fec8");
        x.mark(0, 0, 5, Pages.OFF_1);
        dueFormats(x, 0, "1dcc8");
        x.mark(0, 1, 2, Pages.OFF_3);
        x.mark(0, 3, 5, Pages.OFF_2);
        x.mark(0, 0, 1, Pages.OFF_0);
        dueFormats(x, 0, "05c88");
        x.mark(0, 0, 5, Pages.ON_0);
        dueFormats(x, 0, "15d99");
        x.erase(0, 1);
        dueFormats(x, 0, "1d99");
        duePlaceRefusals(x, 4, x::format);
    }

    private static void formatOfTheGreatestId() {
        CHECKS.about("promise 8, the greatest id");
        MarkedPages x = Pages.withText("abc");
        Pages.tellAll(x);
        x.mark(0, 0, 3, Pages.ON_2);
        x.mark(2, 1, 3, Pages.OFF_2);
        x.mark(1, 2, 3, Pages.ON_2);
        // The same time on all pages: page 2 before page 1 before page 0, however they are told.
        x.tell(0, 1, 90);
        dueFormats(x, 1, "444");
        x.tell(2, 1, 90);
        dueFormats(x, 1, "400");
        x.tell(1, 2, 90);
        dueFormats(x, 2, "400");
        x.tell(2, 0, 90);
        dueFormats(x, 0, "400");

        // A greater time comes before a greater page.
        MarkedPages y = Pages.withText("ab");
        Pages.tellAll(y);
        y.mark(0, 0, 1, Pages.ON_0);
        y.mark(0, 0, 1, Pages.ON_0);
        y.mark(2, 0, 2, Pages.OFF_0);
        Pages.tellAll(y);
        for (int page = 0; page < 3; page++) {
            dueFormats(y, page, "10");
        }
    }

    private static void id() {
        CHECKS.about("promise 9");
        MarkedPages x = new MarkedPages();
        x.write(0, 0, 'a');
        x.write(0, 0, 'b');
        x.tell(0, 2, 90);
        x.write(2, 2, 'c');
        x.tell(2, 0, 90);
        CHECKS.due("id(0, 0)", 8, x.id(0, 0));
        CHECKS.due("id(0, 1)", 4, x.id(0, 1));
        CHECKS.due("id(0, 2)", 14, x.id(0, 2));
        CHECKS.due("id(2, 2)", 14, x.id(2, 2));
        x.erase(0, 0);
        CHECKS.due("id(0, 0)", 4, x.id(0, 0));
        duePlaceRefusals(x, 2, x::id);
    }

    private static void runs() {
        CHECKS.about("promise 10");
        MarkedPages x = Pages.withText("abcdef");
        CHECKS.due("runs(0)", 1, x.runs(0));
        CHECKS.due("runs(1)", 0, x.runs(1));
        x.mark(0, 2, 4, Pages.ON_2);
        CHECKS.due("runs(0)", 3, x.runs(0));
        x.mark(0, 3, 6, Pages.ON_0);
        CHECKS.due("runs(0)", 4, x.runs(0));
        x.erase(0, 2);
        CHECKS.due("runs(0)", 3, x.runs(0));
        // Two stretches of the same format become one run when what stood between them is gone.
        x.erase(0, 2);
        CHECKS.due("runs(0)", 2, x.runs(0));
        x.mark(0, 0, 4, Pages.ON_0);
        CHECKS.due("runs(0)", 1, x.runs(0));
        for (int page : NO_PAGES) {
            CHECKS.dueArgument("runs(" + page + ")", () -> x.runs(page));
        }
    }

    private static void run() {
        CHECKS.about("promise 11");
        MarkedPages x = Pages.withText("abcdef");
        x.mark(0, 1, 3, Pages.ON_2);
        x.mark(0, 2, 3, Pages.ON_1);
        int[][] runs = {{0, 1, 0}, {1, 1, 4}, {2, 1, 6}, {3, 3, 0}};
        for (int k = 0; k < runs.length; k++) {
            for (int what = 0; what < 3; what++) {
                CHECKS.due("run(0, " + k + ", " + what + ")", runs[k][what], x.run(0, k, what));
            }
        }
        for (int what : new int[] {-1, 3, Integer.MIN_VALUE, Integer.MAX_VALUE}) {
            CHECKS.dueArgument("run(0, 0, " + what + ")", () -> x.run(0, 0, what));
            CHECKS.dueArgument("run(0, 9, " + what + ")", () -> x.run(0, 9, what));
        }
        for (int page : NO_PAGES) {
            CHECKS.dueArgument("run(" + page + ", 0, 0)", () -> x.run(page, 0, 0));
            CHECKS.dueArgument("run(" + page + ", -1, 0)", () -> x.run(page, -1, 0));
        }
        for (int what = 0; what < 3; what++) {
            int asked = what;
            for (int k : new int[] {-1, 4, 5, 6, Integer.MIN_VALUE, Integer.MAX_VALUE}) {
                CHECKS.dueIndex("run(0, " + k + ", " + what + ")", () -> x.run(0, k, asked));
            }
            CHECKS.dueIndex("run(1, 0, " + what + ")", () -> x.run(1, 0, asked));
        }
    }

    private static void count() {
        CHECKS.about("promise 12");
        MarkedPages x = Pages.withText("abc");
        x.write(1, 0, 'x');
        x.mark(1, 0, 1, Pages.ON_0);
        x.mark(1, 0, 1, Pages.OFF_0);
        x.erase(0, 0);
        x.tell(0, 1, 3);
        int[][] counts = {{4, 4, 3, 0}, {6, 3, 4, 2}, {0, 0, 0, 0}};
        for (int page = 0; page < 3; page++) {
            for (int what = 0; what < 4; what++) {
                CHECKS.due("count(" + page + ", " + what + ")", counts[page][what], x.count(page, what));
            }
        }
        for (int page : NO_PAGES) {
            CHECKS.dueArgument("count(" + page + ", 0)", () -> x.count(page, 0));
        }
        for (int what : new int[] {-1, 4, Integer.MIN_VALUE, Integer.MAX_VALUE}) {
            CHECKS.dueArgument("count(0, " + what + ")", () -> x.count(0, what));
        }
    }

    private static void alike() {
        CHECKS.about("promise 13");
        MarkedPages x = Pages.withText("a");
        CHECKS.due("alike(0, 0)", true, x.alike(0, 0));
        CHECKS.due("alike(0, 1)", false, x.alike(0, 1));
        CHECKS.due("alike(1, 0)", false, x.alike(1, 0));
        CHECKS.due("alike(1, 2)", true, x.alike(1, 2));
        x.write(1, 0, 'a');
        // As many operations, and the same text, but not the same operations.
        CHECKS.due("alike(0, 1)", false, x.alike(0, 1));
        x.tell(0, 1, 1);
        CHECKS.due("alike(0, 1)", false, x.alike(0, 1));
        CHECKS.due("alike(1, 0)", false, x.alike(1, 0));
        x.tell(1, 0, 1);
        // Known in another order.
        CHECKS.due("alike(0, 1)", true, x.alike(0, 1));
        x.mark(0, 0, 1, Pages.OFF_0);
        CHECKS.due("alike(0, 1) after a marking", false, x.alike(0, 1));
        for (int page : NO_PAGES) {
            CHECKS.dueArgument("alike(" + page + ", 0)", () -> x.alike(page, 0));
            CHECKS.dueArgument("alike(0, " + page + ")", () -> x.alike(0, page));
        }
    }
}
