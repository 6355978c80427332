/** Promise 3: line. */
public final class Promise03Line {
    public static void main(String[] args) {
        eightLines();
        standingTasksRun();
        mostRuns();
        Due.end();
    }

    private static void eightLines() {
        PatchbayScript script = new PatchbayScript();
        for (int i = 0; i < 8; i++) {
            String text = "abcdefgh".substring(0, i);
            Due.is("line " + i, Due.line(script, text), i);
            Due.is("the text of line " + i, Due.text(script, i), text);
        }
        script.type('x');
        Due.failsState("a ninth line", script::line);
        Due.is("type after a line that was not made", script.type('y'), 2);
        Due.failsIndex("the ninth line", () -> script.length(8));
        Due.is("the draft then", Due.show(script, 0, 0, "z"), 1);
        Due.is("what was shown", Due.text(script, 0), "xyz");
    }

    /** The task 0 puts a word in capitals, 1 puts a mark behind it, 2 knows digits alone. */
    private static PatchbayScript withStanding() {
        PatchbayScript script = new PatchbayScript();
        Due.line(script, "ab");
        Due.line(script, "12345");
        Due.show(script, 0, 0, "AB");
        Due.show(script, 1, 0, "AB.");
        Due.show(script, 2, 1, "12345-12345");
        Due.is("learn(0)", script.learn(0), 6);
        Due.is("learn(1)", script.learn(1), 11);
        Due.is("learn(2)", script.learn(2), 15);
        return script;
    }

    private static void standingTasksRun() {
        PatchbayScript script = withStanding();
        script.stand(1, true);
        script.stand(0, true);
        Due.is("the line with two standing", Due.line(script, "cd"), 2);
        Due.is("both, by their numbers", Due.text(script, 2), "CD.");
        Due.is("two runs", script.runs(), 2);
        Due.is("undo of the run of the task 0", script.undo(0), false);
        Due.is("that of the task 1 alone", Due.text(script, 2), "cd.");
        script.stand(2, true);
        Due.is("an empty line", script.line(), 3);
        Due.is("it stays", Due.text(script, 3), "");
        Due.is("runs that failed are numbered too", script.runs(), 5);
        Due.is("none is asked", script.asked(), 0);
        Due.is("a draft after a line", script.type('a'), 1);
        Due.is("earlier lines stay", Due.text(script, 2), "cd.");
    }

    private static void mostRuns() {
        PatchbayScript script = withStanding();
        for (int i = 0; i < 29; i++) {
            script.run(0, 0, 0, PatchbayScript.SKIP);
        }
        script.stand(0, true);
        script.stand(2, true);
        script.type('e');
        Due.failsState("a line with 31 runs", script::line);
        Due.is("runs after it", script.runs(), 29);
        Due.failsIndex("the line that was not made", () -> script.length(2));
        Due.is("the draft after it", script.type('f'), 2);
        script.stand(2, false);
        Due.is("a line with 30 runs", script.line(), 2);
        Due.is("30 runs", script.runs(), 30);
        Due.is("it ran", Due.text(script, 2), "EF");
        Due.failsState("a line with 31 runs again", script::line);
        script.stand(0, false);
        Due.is("a line without a run", script.line(), 3);
    }
}
