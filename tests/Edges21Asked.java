/** Promise 21, its boundaries: asked. */
public final class Edges21Asked {
    private static final String PROMISE = "Promise 21";
    private static final String RETURNS = "Returns the lines that are asked by runs, also by undone ones, as a set: bit l for"
            + " the line l; they are not asked any more then.";
    private static final int STOP = PatchbayScript.STOP;
    private static final int SKIP = PatchbayScript.SKIP;
    private static final int ASK = PatchbayScript.ASK;

    public static void main(String[] args) {
        none();
        firstAndLastLine();
        allLines();
        notAnyMore();
        byUndoneOnes();
        byOthersNot();
        staysUntilAsked();
        Due.end();
    }

    private static void none() {
        Due.sentence(PROMISE, RETURNS);
        PatchbayScript script = new PatchbayScript();
        Due.is("of a new object", script.asked(), 0);
        script.line();
        Due.is("of an empty line", script.asked(), 0);
        PatchbayScript learnt = Stories.capitals("b");
        learnt.run(0, 0, 1, ASK);
        Due.is("of a run that does not fail", learnt.asked(), 0);
    }

    /** The task 0 has its example on the line 3, and fails on all other lines. */
    private static PatchbayScript failing() {
        PatchbayScript script = new PatchbayScript();
        for (int line = 0; line < 8; line++) {
            Due.line(script, line == 3 ? "abcde" : "" + line);
        }
        Due.show(script, 0, 3, "ABCDE");
        Due.is("learn", script.learn(0), 6);
        return script;
    }

    private static void firstAndLastLine() {
        Due.sentence(PROMISE, RETURNS);
        PatchbayScript script = failing();
        for (int line = 0; line < 8; line++) {
            script.run(0, line, line, ASK);
            Due.is("the line " + line, script.asked(), line == 3 ? 0 : 1 << line);
        }
    }

    private static void allLines() {
        Due.sentence(PROMISE, RETURNS);
        PatchbayScript script = failing();
        script.run(0, 0, 7, ASK);
        Due.is("all but that of the example", script.asked(), 255 - 8);
        script.run(0, 0, 1, ASK);
        script.run(0, 6, 7, ASK);
        Due.is("by two runs together", script.asked(), 1 | 2 | 64 | 128);
    }

    private static void notAnyMore() {
        Due.sentence(PROMISE, RETURNS);
        PatchbayScript script = failing();
        script.run(0, 0, 7, ASK);
        script.asked();
        Due.is("asked again", script.asked(), 0);
        script.run(0, 2, 2, ASK);
        script.run(0, 2, 2, ASK);
        Due.is("twice by runs, and anew", script.asked(), 4);
        Due.is("asked again", script.asked(), 0);
    }

    private static void byUndoneOnes() {
        Due.sentence(PROMISE, RETURNS);
        PatchbayScript script = failing();
        script.run(0, 0, 2, ASK);
        script.undo(0);
        Due.is("by an undone run", script.asked(), 7);
        script.undo(0);
        Due.is("not by doing it again", script.asked(), 0);
        script.undo(0);
        Due.is("nor by undoing it", script.asked(), 0);
    }

    private static void byOthersNot() {
        Due.sentence(PROMISE, RETURNS);
        PatchbayScript script = new PatchbayScript();
        Due.line(script, "abcde");
        Due.show(script, 0, 0, "ABCDE");
        script.learn(0);
        Due.line(script, "1");
        script.run(0, 0, 1, STOP);
        script.run(0, 0, 1, SKIP);
        Due.is("not by STOP or SKIP", script.asked(), 0);
        script.stand(0, true);
        Due.line(script, "2");
        Due.is("not by a standing task", script.asked(), 0);
        Due.failsArgument("a run that throws", () -> script.run(0, 1, 0, ASK));
        Due.failsIndex("another one", () -> script.run(0, 1, 3, ASK));
        Due.is("not by runs that throw", script.asked(), 0);
    }

    /** What comes later does not matter: another run that makes something, or what is shown. */
    private static void staysUntilAsked() {
        Due.sentence(PROMISE, RETURNS);
        PatchbayScript script = failing();
        script.run(0, 1, 2, ASK);
        Due.show(script, 0, 1, "x");
        Due.show(script, 1, 2, "b");
        Due.is("a run on one of them makes something now", script.run(0, 2, 2, ASK), 1);
        Due.is("both are asked", script.asked(), 2 | 4);
    }
}
