/** Promise 18, its boundaries: runs. */
public final class Edges18Runs {
    private static final String PROMISE = "Promise 18";
    private static final int SKIP = PatchbayScript.SKIP;

    public static void main(String[] args) {
        none();
        thirty();
        undoneOnes();
        onNoLine();
        ofStandingTasks();
        thatWereThrown();
        Due.end();
    }

    private static void none() {
        Due.sentence(PROMISE, "Returns how many runs there were.");
        PatchbayScript script = new PatchbayScript();
        Due.is("of a new object", script.runs(), 0);
        PatchbayScript learnt = Stories.capitals("b");
        learnt.preview(0, 1, 0);
        learnt.stand(0, true);
        Due.is("without a run", learnt.runs(), 0);
    }

    private static void thirty() {
        Due.sentence(PROMISE, "Returns how many runs there were.");
        PatchbayScript script = Stories.capitals("b");
        for (int run = 1; run <= 30; run++) {
            script.run(0, 1, 1, SKIP);
            Due.is("runs", script.runs(), run);
            Due.is("runs, asked again", script.runs(), run);
        }
    }

    private static void undoneOnes() {
        Due.sentence(PROMISE, "Returns how many runs there were.");
        PatchbayScript script = Stories.capitals("b");
        script.run(0, 1, 1, SKIP);
        script.run(0, 1, 1, SKIP);
        script.undo(1);
        script.undo(0);
        Due.is("undone runs were too", script.runs(), 2);
        script.undo(0);
        Due.is("one is done again", script.runs(), 2);
        script.run(0, 1, 1, SKIP);
        Due.is("a third one", script.runs(), 3);
    }

    private static void onNoLine() {
        Due.sentence(PROMISE, "Returns how many runs there were.");
        PatchbayScript script = Stories.capitals("1");
        for (int way = 0; way < 3; way++) {
            Due.is("a run on a line that fails", script.run(0, 1, 1, way), 0);
            Due.is("runs", script.runs(), 2 * way + 1);
            Due.is("a run on the line of the example", script.run(0, 0, 0, way), 0);
            Due.is("runs", script.runs(), 2 * way + 2);
        }
    }

    private static void ofStandingTasks() {
        Due.sentence(PROMISE, "Returns how many runs there were.");
        PatchbayScript script = Stories.capitals();
        Due.show(script, 1, 0, "x");
        script.learn(1);
        script.stand(0, true);
        script.stand(1, true);
        script.line();
        Due.is("one that fails and one that does not", script.runs(), 2);
        script.stand(0, false);
        script.line();
        Due.is("one more", script.runs(), 3);
        script.stand(1, false);
        script.line();
        Due.is("none more", script.runs(), 3);
    }

    private static void thatWereThrown() {
        Due.sentence("Terms", "A call that throws an exception changes nothing");
        PatchbayScript script = Stories.capitals("b");
        Due.failsArgument("run from 1 to 0", () -> script.run(0, 1, 0, SKIP));
        Due.failsArgument("run by the way 3", () -> script.run(0, 0, 1, 3));
        Due.failsIndex("run to 2", () -> script.run(0, 0, 2, SKIP));
        Due.failsState("run of nothing", () -> script.run(1, 0, 1, SKIP));
        Due.is("runs", script.runs(), 0);
    }
}
