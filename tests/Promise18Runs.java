/** Promise 18: runs. */
public final class Promise18Runs {
    public static void main(String[] args) {
        PatchbayScript script = new PatchbayScript();
        Due.is("runs of a new object", script.runs(), 0);
        Due.line(script, "ab");
        Due.line(script, "12");
        Due.show(script, 0, 0, "AB");
        script.learn(0);
        Due.is("showing and learning is no run", script.runs(), 0);
        script.run(0, 0, 1, PatchbayScript.SKIP);
        Due.is("one run", script.runs(), 1);
        script.run(0, 1, 1, PatchbayScript.STOP);
        Due.is("one that failed", script.runs(), 2);
        Due.failsArgument("a wrong run", () -> script.run(0, 1, 0, PatchbayScript.STOP));
        Due.is("it is none", script.runs(), 2);
        script.undo(0);
        Due.is("undone runs were too", script.runs(), 2);
        script.undo(0);
        Due.is("doing again is no new one", script.runs(), 2);
        script.stand(0, true);
        Due.is("standing is none", script.runs(), 2);
        Due.line(script, "cd");
        Due.is("that of a standing task", script.runs(), 3);
        Due.line(script, "3");
        Due.is("that of a standing task that failed", script.runs(), 4);
        Due.end();
    }
}
