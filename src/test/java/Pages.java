/** What several tests write on pages and read from them. */
final class Pages {
    static final int OFF_0 = 0;
    static final int ON_0 = 1;
    static final int OFF_1 = 2;
    static final int ON_1 = 3;
    static final int OFF_2 = 4;
    static final int ON_2 = 5;
    static final int OFF_3 = 6;
    static final int ON_3 = 7;

    private Pages() {
    }

    /** The text stands on page 0. */
    static MarkedPages withText(String text) {
        MarkedPages x = new MarkedPages();
        for (int i = 0; i < text.length(); i++) {
            x.write(0, i, text.charAt(i));
        }
        return x;
    }

    /** The text stands on all pages. */
    static MarkedPages withTextOnAll(String text) {
        MarkedPages x = withText(text);
        tellAll(x);
        return x;
    }

    /** All pages know the same afterwards. */
    static void tellAll(MarkedPages x) {
        x.tell(0, 1, 90);
        x.tell(1, 2, 90);
        x.tell(2, 1, 90);
        x.tell(1, 0, 90);
    }

    static String text(MarkedPages x, int page) {
        StringBuilder text = new StringBuilder();
        for (int p = 0; p < x.length(page); p++) {
            text.append(x.at(page, p));
        }
        return text.toString();
    }

    /** A hexadecimal digit for each letter's format. */
    static String formats(MarkedPages x, int page) {
        StringBuilder formats = new StringBuilder();
        for (int p = 0; p < x.length(page); p++) {
            formats.append(Integer.toHexString(x.format(page, p)));
        }
        return formats.toString();
    }
}
