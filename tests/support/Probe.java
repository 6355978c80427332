/** What an object tells of itself, as far as calls can find it out; they change it, so it is asked once. */
final class Probe {
    private static final int TASKS = 3;
    private static final int NONE = PatchbayScript.NONE;

    private final PatchbayScript script;
    private final StringBuilder told = new StringBuilder();

    private Probe(PatchbayScript script) {
        this.script = script;
    }

    static String told(PatchbayScript script) {
        Probe probe = new Probe(script);
        probe.askLines();
        for (int task = 0; task < TASKS; task++) {
            probe.askLearnt(task);
            probe.askCounting(task);
        }
        probe.askRuns();
        for (int task = 0; task < TASKS; task++) {
            probe.askTask(task);
        }
        probe.askDraft();
        return probe.told.toString();
    }

    private long say(String what, Due.Call call) {
        told.append(what).append(' ');
        try {
            long answer = call.answer();
            told.append(answer).append("; ");
            return answer;
        } catch (RuntimeException e) {
            told.append(e.getClass().getSimpleName()).append("; ");
            return NONE;
        }
    }

    private void askLines() {
        for (int i = 0; i < 8; i++) {
            int line = i;
            long length = say("length " + line, () -> script.length(line));
            if (length == NONE) {
                return;
            }
            for (int place = 0; place < length; place++) {
                told.append(script.signAt(line, place));
            }
        }
    }

    private void askLearnt(int task) {
        say("condition", () -> script.condition(task));
        told.append(Due.atoms((isElse, place, what) -> script.atomAt(task, isElse, place, what)));
    }

    private void askCounting(int task) {
        long count = say("count", () -> script.count(task));
        for (int i = 0; i < count; i++) {
            told.append(script.weight(task, i)).append(' ');
        }
        say("question", () -> script.question(task));
    }

    private void askRuns() {
        say("asked", script::asked);
        long runs = say("runs", script::runs);
        for (int i = 0; i < runs; i++) {
            told.append(script.undo(i));
        }
        askLines();
        for (int i = 0; i < runs; i++) {
            told.append(script.undo(i));
        }
    }

    /** Whether it stands, its refusals, its pins, and what it learns with and without these. */
    private void askTask(int task) {
        say("stand", () -> script.stand(task, false) ? 1 : 0);
        say("refuse 0", () -> script.refuse(task, 0));
        say("refuse 1", () -> script.refuse(task, 1));
        say("learn", () -> script.learn(task));
        askLearnt(task);
        for (int place = 3; place >= 0; place--) {
            int at = place;
            say("pin none", () -> script.pin(task, at, NONE, 0, 0, 0));
            say("count", () -> script.count(task));
        }
        say("learn", () -> script.learn(task));
        askLearnt(task);
    }

    /** The draft becomes a line, or is shown, or pinned, as there is room; what is shown also tells the examples. */
    private void askDraft() {
        say("type", () -> script.type('q'));
        say("line", script::line);
        for (int task = 0; task < TASKS; task++) {
            for (int line = 0; line < 8; line++) {
                int of = task;
                int on = line;
                say("type", () -> script.type('q'));
                say("show", () -> script.show(of, on));
            }
        }
        say("pin", () -> script.pin(0, 0, PatchbayScript.CONST, 0, 0, 0));
        askLines();
    }
}
