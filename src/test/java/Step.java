import java.util.function.Function;

/** A call with its arguments: it can be named, and made on one object after another. */
record Step(String call, Function<MarkedPages, Object> body) {

    static Step write(int page, int p, char c) {
        return new Step(named("write", page, p, c), x -> x.write(page, p, c));
    }

    static Step erase(int page, int p) {
        return new Step(named("erase", page, p), x -> x.erase(page, p));
    }

    static Step mark(int page, int from, int to, int what) {
        return new Step(named("mark", page, from, to, what), x -> x.mark(page, from, to, what));
    }

    static Step tell(int from, int to, int n) {
        return new Step(named("tell", from, to, n), x -> x.tell(from, to, n));
    }

    static Step length(int page) {
        return new Step(named("length", page), x -> x.length(page));
    }

    static Step at(int page, int p) {
        return new Step(named("at", page, p), x -> x.at(page, p));
    }

    static Step format(int page, int p) {
        return new Step(named("format", page, p), x -> x.format(page, p));
    }

    static Step id(int page, int p) {
        return new Step(named("id", page, p), x -> x.id(page, p));
    }

    static Step runs(int page) {
        return new Step(named("runs", page), x -> x.runs(page));
    }

    static Step run(int page, int k, int what) {
        return new Step(named("run", page, k, what), x -> x.run(page, k, what));
    }

    static Step count(int page, int what) {
        return new Step(named("count", page, what), x -> x.count(page, what));
    }

    static Step alike(int page, int other) {
        return new Step(named("alike", page, other), x -> x.alike(page, other));
    }

    private static String named(String method, int... arguments) {
        StringBuilder all = new StringBuilder(method);
        for (int i = 0; i < arguments.length; i++) {
            all.append(i == 0 ? "(" : ", ").append(arguments[i]);
        }
        return all.append(")").toString();
    }

    Object on(MarkedPages x) {
        return body.apply(x);
    }

    /** The same call, where what it throws is an answer. */
    Step tried() {
        return new Step(call, x -> Checks.answer(() -> on(x)));
    }
}
