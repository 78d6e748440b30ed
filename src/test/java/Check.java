import java.util.Arrays;
import java.util.List;
import java.util.Map;
import java.util.function.Supplier;

/** Counts the calls that do not answer what is due, and prints each. */
final class Check {
    private int wrong = 0;
    private String topic = "";

    void topic(String name) {
        topic = name;
    }

    void due(Object want, String call, Supplier<Object> asked) {
        Object got;
        try {
            got = asked.get();
        } catch (RuntimeException e) {
            got = e.getClass().getName();
        }
        if (!want.equals(got)) {
            fail(call + " answered " + got + ", due is " + want);
        }
    }

    /** The very class is asked for: one below it would not be what the document names. */
    void refused(Class<? extends RuntimeException> want, String call, Runnable asked) {
        due(want.getName(), call, () -> {
            asked.run();
            return "nothing thrown";
        });
    }

    void runs(String call, Runnable asked) {
        due("done", call, () -> {
            asked.run();
            return "done";
        });
    }

    /**
     * A run of calls on a wall of so many cells. A line is "call -> answer"; or calls with ';'
     * between them, of which it is only asked that none is refused.
     */
    void story(String name, int cells, String text) {
        topic(name);
        Run run = new Run(cells);
        for (String line : text.strip().split("\\s*\n\\s*")) {
            int arrow = line.indexOf(" -> ");
            if (arrow < 0) {
                run.given(line.split("; "));
            } else {
                String call = line.substring(0, arrow);
                due(line.substring(arrow + 4), call, () -> run.answer(call));
            }
        }
    }

    /** The call answers this, and of all that later calls answer only the named ones differ. */
    void changesOnly(Scene scene, String want, String call, String... changed) {
        due(want, call, () -> scene.run().answer(call));
        Map<String, String> without = scene.later();
        Map<String, String> with = scene.later(call);
        List<String> mayDiffer = Arrays.asList(changed);
        for (Map.Entry<String, String> entry : without.entrySet()) {
            String later = entry.getKey();
            boolean same = entry.getValue().equals(with.get(later));
            if (same == mayDiffer.contains(later)) {
                fail("behind " + call + " answered " + later + " " + with.get(later)
                        + ", without it " + entry.getValue());
            }
        }
    }

    void changesNothing(Scene scene, String want, String... calls) {
        for (String call : calls) {
            changesOnly(scene, want, call);
        }
    }

    void fail(String text) {
        wrong++;
        System.out.println(topic + ": " + text);
    }

    void end() {
        if (wrong > 0) {
            System.exit(1);
        }
    }
}
