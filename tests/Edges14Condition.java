/** Promise 14, its boundaries: condition; which one it is, EdgesConditions asks. */
public final class Edges14Condition {
    private static final String PROMISE = "Promise 14";
    private static final String RETURNS = "Returns 0 to 20; NONE if it is not parted, or has learnt nothing.";
    private static final int NONE = PatchbayScript.NONE;

    public static void main(String[] args) {
        firstAndLast();
        notParted();
        learntNothing();
        partedNoMore();
        firstAndLastTask();
        noSuchTask();
        Due.end();
    }

    private static PatchbayScript parted(int task, String held, String other) {
        PatchbayScript script = new PatchbayScript();
        Due.line(script, held);
        Due.line(script, other);
        Due.show(script, task, 0, "x");
        Due.show(script, task, 1, "y");
        Due.is("learn(" + task + ")", script.learn(task), 14);
        return script;
    }

    private static void firstAndLast() {
        Due.sentence(PROMISE, RETURNS);
        Due.is("the first one", parted(0, "1", "a").condition(0), 0);
        Due.is("the second one", parted(0, "1a1", "1a").condition(0), 1);
        Due.is("the last but one", parted(0, "-.", "..").condition(0), 19);
        Due.is("the last one", parted(0, "/.", "..").condition(0), 20);
    }

    private static void notParted() {
        Due.sentence(PROMISE, RETURNS);
        PatchbayScript script = Stories.learnt("1", "x", "a");
        Due.is("one example", script.condition(0), NONE);
        Due.show(script, 0, 1, "x");
        script.learn(0);
        Due.is("one program for two examples", script.condition(0), NONE);
    }

    private static void learntNothing() {
        Due.sentence(PROMISE, RETURNS);
        PatchbayScript script = new PatchbayScript();
        Due.line(script, "1");
        Due.line(script, "a");
        Due.is("a new task", script.condition(0), NONE);
        Due.show(script, 0, 0, "x");
        Due.show(script, 0, 1, "y");
        script.count(0);
        script.question(0);
        Due.is("shown, not learnt", script.condition(0), NONE);
    }

    private static void partedNoMore() {
        Due.sentence(PROMISE, RETURNS);
        PatchbayScript script = parted(0, "/.", "..");
        script.pin(0, 0, PatchbayScript.EACH, 0, 0, 0);
        Due.is("a pin is not learnt", script.condition(0), 20);
        script.learn(0);
        Due.is("nothing is learnt", script.condition(0), NONE);
        script.pin(0, 0, NONE, 0, 0, 0);
        Due.is("and is not until learning", script.condition(0), NONE);
        script.learn(0);
        Due.is("parted again", script.condition(0), 20);
    }

    private static void firstAndLastTask() {
        Due.sentence(PROMISE, "`task`: 0 to 2");
        for (int task = 0; task < 3; task++) {
            PatchbayScript script = parted(task, ".", "");
            for (int other = 0; other < 3; other++) {
                Due.is("condition(" + other + "), " + task + " being parted", script.condition(other),
                        other == task ? 9 : NONE);
            }
        }
    }

    private static void noSuchTask() {
        Due.sentence(PROMISE, "Throws `IndexOutOfBoundsException` if there is no such task");
        for (int task : Twins.outside(0, 2)) {
            Twins.failIndex("condition(" + task + ")", Stories::rich, script -> script.condition(task));
            Due.failsIndex("condition(" + task + ") of a new object", () -> new PatchbayScript().condition(task));
        }
    }
}
