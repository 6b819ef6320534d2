import java.util.ArrayList;
import java.util.Comparator;
import java.util.List;
import java.util.Random;

/**
 * Long mixed runs of calls, each answer against a model that takes the document's terms word for
 * word: the row is built anew from the parents, and every letter asks every marking.
 */
public final class ModelTest {
    private static final int MOST_CALLS = 512;
    private static final int OBJECTS = 400;

    public static void main(String[] args) {
        Checks checks = new Checks();
        for (int i = 0; i < OBJECTS && checks.wrongAnswers() == 0; i++) {
            checks.about("mixed run " + i);
            mixedRun(checks, new Random(i));
        }
        checks.end();
    }

    private static void mixedRun(Checks checks, Random random) {
        MarkedPages x = new MarkedPages();
        Model model = new Model();
        // Some runs write much, some mostly tell and mark; few calls are wrong.
        int writes = 1 + random.nextInt(8);
        int erases = random.nextInt(4);
        int marks = random.nextInt(8);
        int tells = random.nextInt(8);
        int reads = 1 + random.nextInt(20);
        for (int calls = 0; calls < MOST_CALLS && checks.wrongAnswers() == 0; calls++) {
            int choice = random.nextInt(writes + erases + marks + tells + reads);
            if (choice < writes) {
                write(checks, x, model, random);
            } else if (choice < writes + erases) {
                erase(checks, x, model, random);
            } else if (choice < writes + erases + marks) {
                mark(checks, x, model, random);
            } else if (choice < writes + erases + marks + tells) {
                tell(checks, x, model, random);
            } else {
                read(checks, x, model, random);
            }
        }
    }

    private static int around(Random random, int bound) {
        int dice = random.nextInt(60);
        if (dice == 0) {
            return -1;
        }
        if (dice == 1) {
            return bound + 1;
        }
        if (dice == 2) {
            return random.nextInt();
        }
        return random.nextInt(bound + 1);
    }

    private static int somePage(Random random) {
        return around(random, 2);
    }

    private static int sizeOf(Model model, int page) {
        return page >= 0 && page < 3 ? model.text(page).size() : 2;
    }

    private static void write(Checks checks, MarkedPages x, Model model, Random random) {
        int page = somePage(random);
        int p = around(random, sizeOf(model, page));
        char c = (char) random.nextInt(65536);
        checks.due("write(" + page + ", " + p + ", (char) " + (int) c + ")",
                Checks.answer(() -> model.write(page, p, c)), Checks.answer(() -> x.write(page, p, c)));
    }

    private static void erase(Checks checks, MarkedPages x, Model model, Random random) {
        int page = somePage(random);
        int p = around(random, sizeOf(model, page));
        checks.due("erase(" + page + ", " + p + ")",
                Checks.answer(() -> model.erase(page, p)), Checks.answer(() -> x.erase(page, p)));
    }

    private static void mark(Checks checks, MarkedPages x, Model model, Random random) {
        int page = somePage(random);
        int one = around(random, sizeOf(model, page));
        int two = around(random, sizeOf(model, page));
        boolean turned = random.nextInt(30) == 0;
        int from = turned ? Math.max(one, two) : Math.min(one, two);
        int to = turned ? Math.min(one, two) : Math.max(one, two);
        int what = around(random, 7);
        checks.due("mark(" + page + ", " + from + ", " + to + ", " + what + ")",
                Checks.answer(() -> model.mark(page, from, to, what)),
                Checks.answer(() -> x.mark(page, from, to, what)));
    }

    private static void tell(Checks checks, MarkedPages x, Model model, Random random) {
        int from = somePage(random);
        int to = somePage(random);
        int n = random.nextInt(4) == 0 ? around(random, 90) : around(random, 4);
        checks.due("tell(" + from + ", " + to + ", " + n + ")",
                Checks.answer(() -> model.tell(from, to, n)), Checks.answer(() -> x.tell(from, to, n)));
    }

    private static void read(Checks checks, MarkedPages x, Model model, Random random) {
        int page = somePage(random);
        int other = somePage(random);
        int p = around(random, sizeOf(model, page));
        int what = around(random, 3);
        switch (random.nextInt(8)) {
            case 0 -> checks.due("length(" + page + ")",
                    Checks.answer(() -> model.length(page)), Checks.answer(() -> x.length(page)));
            case 1 -> checks.due("at(" + page + ", " + p + ")",
                    Checks.answer(() -> model.at(page, p)), Checks.answer(() -> x.at(page, p)));
            case 2 -> checks.due("format(" + page + ", " + p + ")",
                    Checks.answer(() -> model.format(page, p)), Checks.answer(() -> x.format(page, p)));
            case 3 -> checks.due("id(" + page + ", " + p + ")",
                    Checks.answer(() -> model.id(page, p)), Checks.answer(() -> x.id(page, p)));
            case 4 -> checks.due("runs(" + page + ")",
                    Checks.answer(() -> model.runs(page)), Checks.answer(() -> x.runs(page)));
            case 5 -> checks.due("run(" + page + ", " + p / 2 + ", " + what + ")",
                    Checks.answer(() -> model.run(page, p / 2, what)), Checks.answer(() -> x.run(page, p / 2, what)));
            case 6 -> checks.due("count(" + page + ", " + what + ")",
                    Checks.answer(() -> model.count(page, what)), Checks.answer(() -> x.count(page, what)));
            default -> checks.due("alike(" + page + ", " + other + ")",
                    Checks.answer(() -> model.alike(page, other)), Checks.answer(() -> x.alike(page, other)));
        }
    }

    /** A writing has a letter and a parent, an erasing what is gone, a marking a first letter and an end. */
    private record Made(char sort, int time, int page, char letter, Made parent, Made gone,
            int kind, boolean on, Made first, Made end) {
        boolean isGreaterThan(Made other) {
            return time != other.time ? time > other.time : page > other.page;
        }

        // Each operation is made once; a record's own equals would walk along all parents.
        @Override
        public boolean equals(Object other) {
            return this == other;
        }

        @Override
        public int hashCode() {
            return 4 * time + page;
        }
    }

    private static final class Model {
        private final List<List<Made>> known = List.of(new ArrayList<>(), new ArrayList<>(), new ArrayList<>());
        private int made = 0;

        int write(int page, int p, char c) {
            check(page);
            index(p >= 0 && p <= text(page).size());
            Made parent = p == 0 ? null : text(page).get(p - 1);
            return make(new Made('w', nextTime(page), page, c, parent, null, 0, false, null, null));
        }

        char erase(int page, int p) {
            check(page);
            index(p >= 0 && p < text(page).size());
            Made gone = text(page).get(p);
            make(new Made('e', nextTime(page), page, ' ', null, gone, 0, false, null, null));
            return gone.letter;
        }

        int mark(int page, int from, int to, int what) {
            check(page);
            argument(what >= 0 && what <= 7);
            List<Made> text = text(page);
            index(0 <= from && from < to && to <= text.size());
            int kind = what / 2;
            Made end;
            if (kind == 0 || kind == 1) {
                end = to == text.size() ? null : text.get(to);
            } else {
                end = text.get(to - 1);
            }
            return make(new Made('m', nextTime(page), page, ' ', null, null,
                    kind, what == 2 * kind + 1, text.get(from), end));
        }

        int tell(int from, int to, int n) {
            check(from);
            check(to);
            argument(n >= 0);
            List<Made> news = new ArrayList<>(known.get(from));
            news.removeAll(known.get(to));
            List<Made> told = news.subList(0, Math.min(n, news.size()));
            known.get(to).addAll(told);
            return told.size();
        }

        int length(int page) {
            check(page);
            return text(page).size();
        }

        char at(int page, int p) {
            return letter(page, p).letter;
        }

        int format(int page, int p) {
            return formatOf(page, letter(page, p));
        }

        int id(int page, int p) {
            Made letter = letter(page, p);
            return 4 * letter.time + letter.page;
        }

        int runs(int page) {
            check(page);
            return allRuns(page).size();
        }

        int run(int page, int k, int what) {
            check(page);
            argument(what == 0 || what == 1 || what == 2);
            List<int[]> all = allRuns(page);
            index(k >= 0 && k < all.size());
            return all.get(k)[what];
        }

        int count(int page, int what) {
            check(page);
            argument(what >= 0 && what <= 3);
            return switch (what) {
                case 0 -> known.get(page).size();
                case 1 -> nextTime(page) - 1;
                case 2 -> row(page).size();
                default -> (int) known.get(page).stream().filter(o -> o.sort == 'm').count();
            };
        }

        boolean alike(int page, int other) {
            check(page);
            check(other);
            return known.get(page).containsAll(known.get(other)) && known.get(other).containsAll(known.get(page));
        }

        private static void check(int page) {
            argument(page == 0 || page == 1 || page == 2);
        }

        private static void argument(boolean legal) {
            if (!legal) {
                throw new IllegalArgumentException();
            }
        }

        private static void index(boolean legal) {
            if (!legal) {
                throw new IndexOutOfBoundsException();
            }
        }

        private int nextTime(int page) {
            return 1 + known.get(page).stream().mapToInt(Made::time).max().orElse(0);
        }

        private int make(Made operation) {
            if (made == 90) {
                throw new IllegalStateException();
            }
            made++;
            known.get(operation.page).add(operation);
            return operation.time;
        }

        private Made letter(int page, int p) {
            check(page);
            index(p >= 0 && p < text(page).size());
            return text(page).get(p);
        }

        private List<Made> row(int page) {
            List<Made> row = new ArrayList<>();
            addBehind(null, known.get(page), row);
            return row;
        }

        private static void addBehind(Made parent, List<Made> known, List<Made> row) {
            List<Made> behind = new ArrayList<>();
            for (Made operation : known) {
                if (operation.sort == 'w' && operation.parent == parent) {
                    behind.add(operation);
                }
            }
            behind.sort(Comparator.comparingInt(Made::time).thenComparingInt(Made::page).reversed());
            for (Made letter : behind) {
                row.add(letter);
                addBehind(letter, known, row);
            }
        }

        List<Made> text(int page) {
            List<Made> text = row(page);
            for (Made operation : known.get(page)) {
                if (operation.sort == 'e') {
                    text.removeIf(letter -> letter == operation.gone);
                }
            }
            return text;
        }

        private int formatOf(int page, Made letter) {
            List<Made> row = row(page);
            int format = 0;
            for (int kind = 0; kind < 4; kind++) {
                Made greatest = null;
                for (Made operation : known.get(page)) {
                    if (operation.sort == 'm' && operation.kind == kind && covers(operation, letter, row)
                            && (greatest == null || operation.isGreaterThan(greatest))) {
                        greatest = operation;
                    }
                }
                if (greatest != null && greatest.on) {
                    format += new int[] {1, 2, 4, 8}[kind];
                }
            }
            return format;
        }

        private static boolean covers(Made marking, Made letter, List<Made> row) {
            int place = placeOf(letter, row);
            if (place < placeOf(marking.first, row)) {
                return false;
            }
            if (marking.kind <= 1) {
                return marking.end == null || place < placeOf(marking.end, row);
            }
            return place <= placeOf(marking.end, row);
        }

        private static int placeOf(Made letter, List<Made> row) {
            for (int i = 0; i < row.size(); i++) {
                if (row.get(i) == letter) {
                    return i;
                }
            }
            throw new AssertionError("a letter that is not in the row");
        }

        /** First place, size and format of each run. */
        private List<int[]> allRuns(int page) {
            List<int[]> all = new ArrayList<>();
            List<Made> text = text(page);
            for (int p = 0; p < text.size(); p++) {
                int format = formatOf(page, text.get(p));
                if (all.isEmpty() || all.get(all.size() - 1)[2] != format) {
                    all.add(new int[] {p, 0, format});
                }
                all.get(all.size() - 1)[1]++;
            }
            return all;
        }
    }
}
