/** Counts and prints what is not as due; shared by the tests. */
final class Checks {
    private int wrong = 0;
    private String topic = "";

    void about(String newTopic) {
        topic = newTopic;
    }

    void due(String call, Object want, Object got) {
        if (!want.equals(got)) {
            wrong++;
            System.out.println(topic + ": " + call + " answered " + got + ", due is " + want);
        }
    }

    /** Runs a call; what it throws is named in the form throws.Name, by its exact class. */
    static Object answer(Call call) {
        try {
            return call.make();
        } catch (RuntimeException e) {
            return "throws." + e.getClass().getSimpleName();
        }
    }

    void dueArgument(String call, Call made) {
        due(call, "throws.IllegalArgumentException", answer(made));
    }

    void dueIndex(String call, Call made) {
        due(call, "throws.IndexOutOfBoundsException", answer(made));
    }

    void dueState(String call, Call made) {
        due(call, "throws.IllegalStateException", answer(made));
    }

    int wrongAnswers() {
        return wrong;
    }

    void end() {
        if (wrong != 0) {
            System.out.println(wrong + " answers are not as due");
            System.exit(1);
        }
    }

    interface Call {
        Object make();
    }
}
