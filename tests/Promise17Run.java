/** Promise 17: run. */
public final class Promise17Run {
    private static final int STOP = PatchbayScript.STOP;
    private static final int SKIP = PatchbayScript.SKIP;
    private static final int ASK = PatchbayScript.ASK;

    public static void main(String[] args) {
        ways();
        lastStep();
        snapshots();
        wrongCalls();
        mostRuns();
        Due.end();
    }

    /** The task 0 takes the digits of a line; it was shown on the line 1, and fails on the lines 3 and 5. */
    private static PatchbayScript withDigits() {
        PatchbayScript script = new PatchbayScript();
        String[] texts = {"a1", "b22222", "c3", "d", "e5", "f", "g7"};
        for (String text : texts) {
            Due.line(script, text);
        }
        Due.show(script, 0, 1, "22222");
        Due.is("learn", script.learn(0), 4);
        return script;
    }

    private static void texts(PatchbayScript script, String... texts) {
        for (int i = 0; i < texts.length; i++) {
            Due.is("the line " + i, Due.text(script, i), texts[i]);
        }
    }

    private static void ways() {
        PatchbayScript script = withDigits();
        Due.is("STOP at the first line that fails", script.run(0, 0, 6, STOP), 2);
        texts(script, "1", "22222", "3", "d", "e5", "f", "g7");
        Due.is("STOP asks not", script.asked(), 0);
        script = withDigits();
        Due.is("SKIP leaves out", script.run(0, 0, 6, SKIP), 4);
        texts(script, "1", "22222", "3", "d", "5", "f", "7");
        Due.is("SKIP asks not", script.asked(), 0);
        script = withDigits();
        Due.is("ASK leaves out", script.run(0, 0, 6, ASK), 4);
        texts(script, "1", "22222", "3", "d", "5", "f", "7");
        Due.is("ASK asks", script.asked(), 1 << 3 | 1 << 5);
        script = withDigits();
        Due.is("from a line to another one", script.run(0, 4, 5, ASK), 1);
        texts(script, "a1", "22222", "c3", "d", "5", "f", "g7");
        Due.is("of these alone it asks", script.asked(), 1 << 5);
        Due.is("one line", script.run(0, 6, 6, STOP), 1);
        Due.is("one line that fails", script.run(0, 3, 3, STOP), 0);
        Due.is("the line that was shown", script.run(0, 1, 1, ASK), 0);
        Due.is("it is not asked", script.asked(), 0);
        Due.is("runs with no lines are runs", script.runs(), 4);
        Due.is("a run on what it has made", script.run(0, 4, 6, SKIP), 2);
    }

    private static void lastStep() {
        PatchbayScript script = new PatchbayScript();
        Due.line(script, "ab cd");
        Due.line(script, "ef gh");
        Due.show(script, 0, 0, "cd ab");
        Due.is("learn a swap", script.learn(0), 12);
        Due.is("run it", script.run(0, 1, 1, STOP), 1);
        Due.is("run it again", script.run(0, 0, 1, STOP), 1);
        Due.is("and a third time", script.run(0, 1, 1, STOP), 1);
        Due.is("thrice swapped", Due.text(script, 1), "gh ef");
        Due.show(script, 1, 1, "gh-ef");
        Due.is("shown behind it", Due.text(script, 1), "gh-ef");
        Due.is("run behind what was shown", script.run(0, 1, 1, STOP), 1);
        Due.is("swapped about the mark", Due.text(script, 1), "ef-gh");
        Due.is("a line with an example of another task", script.run(0, 0, 1, SKIP), 1);
    }

    /** A run keeps what the task had learnt. */
    private static void snapshots() {
        PatchbayScript script = new PatchbayScript();
        Due.line(script, "ab");
        Due.line(script, "cd");
        Due.line(script, "ef 1");
        Due.show(script, 0, 0, "AB");
        script.learn(0);
        script.run(0, 1, 2, STOP);
        Due.show(script, 0, 2, "x");
        Due.is("learn anew, parted", script.learn(0), 13);
        Due.is("the line of the run stays", Due.text(script, 1), "CD");
        script.undo(0);
        script.undo(0);
        Due.is("and is made again as it was", Due.text(script, 1), "CD");
        Due.is("run what is learnt now", script.run(0, 0, 2, SKIP), 1);
        Due.is("what it makes of capitals now", Due.text(script, 1), "x");
        script.undo(0);
        Due.is("without the first run it makes capitals", Due.text(script, 1), "CD");
    }

    private static void wrongCalls() {
        PatchbayScript script = new PatchbayScript();
        Due.failsIndex("run without lines", () -> script.run(0, 0, 0, STOP));
        Due.line(script, "ab");
        Due.line(script, "cd");
        Due.failsState("run of nothing", () -> script.run(0, 0, 1, STOP));
        Due.failsIndex("run(-1, ..)", () -> script.run(-1, 0, 1, STOP));
        Due.failsIndex("run(3, ..)", () -> script.run(3, 1, 0, 7));
        Due.failsIndex("run(0, -1, ..)", () -> script.run(0, -1, 1, STOP));
        Due.failsIndex("run(0, 2, ..)", () -> script.run(0, 2, 1, STOP));
        Due.failsIndex("run(0, 0, 2, ..)", () -> script.run(0, 0, 2, 3));
        Due.failsIndex("run(0, 0, -1, ..)", () -> script.run(0, 0, -1, STOP));
        Due.failsArgument("run(0, 1, 0, ..)", () -> script.run(0, 1, 0, STOP));
        Due.failsArgument("run with the way 3", () -> script.run(0, 0, 1, 3));
        Due.failsArgument("run with the way -1", () -> script.run(0, 0, 1, -1));
        Due.is("no run is counted", script.runs(), 0);
        Due.show(script, 0, 0, "AB");
        Due.failsState("run of what is shown, not learnt", () -> script.run(0, 0, 1, STOP));
        script.learn(0);
        Due.failsArgument("run(0, 1, 0, ..) of what is learnt", () -> script.run(0, 1, 0, STOP));
        Due.is("run", script.run(0, 0, 1, STOP), 1);
    }

    private static void mostRuns() {
        PatchbayScript script = withDigits();
        for (int i = 0; i < 30; i++) {
            Due.is("run " + i, script.run(0, 0, 0, ASK), 1);
        }
        Due.failsState("a run too much", () -> script.run(0, 2, 3, ASK));
        Due.failsArgument("a run too much, of a wrong way", () -> script.run(0, 2, 3, 9));
        Due.is("there are 30", script.runs(), 30);
        Due.is("the line stays", Due.text(script, 2), "c3");
        Due.is("none is asked", script.asked(), 0);
        script.undo(29);
        Due.failsState("undone runs count too", () -> script.run(0, 2, 3, ASK));
    }
}
