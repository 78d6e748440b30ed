import java.util.function.Supplier;

/** Counts the calls that do not answer what is due, and prints each. */
final class Check {
    private int wrong = 0;
    private String topic = "";

    void topic(String name) {
        topic = name;
    }

    void due(Object want, String call, Supplier<Object> asked) {
        Object got;
        try {
            got = asked.get();
        } catch (RuntimeException e) {
            got = e.getClass().getName();
        }
        if (!want.equals(got)) {
            fail(call + " answered " + got + ", due is " + want);
        }
    }

    /** The very class is asked for: one below it would not be what the document names. */
    void refused(Class<? extends RuntimeException> want, String call, Runnable asked) {
        due(want.getName(), call, () -> {
            asked.run();
            return "nothing thrown";
        });
    }

    void runs(String call, Runnable asked) {
        due("done", call, () -> {
            asked.run();
            return "done";
        });
    }

    void fail(String text) {
        wrong++;
        System.out.println(topic + ": " + text);
    }

    void end() {
        if (wrong > 0) {
            System.exit(1);
        }
    }
}
