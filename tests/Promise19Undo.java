/** Promise 19: undo. */
public final class Promise19Undo {
    private static final int STOP = PatchbayScript.STOP;

    public static void main(String[] args) {
        amongOthers();
        fails();
        parted();
        wrongCalls();
        Due.end();
    }

    /** The task 0 swaps two words, 1 takes the first one, 2 makes capitals of all. */
    private static PatchbayScript withThree() {
        PatchbayScript script = new PatchbayScript();
        Due.line(script, "ab cd");
        Due.show(script, 0, 0, "cd ab");
        Due.show(script, 1, 0, "cd");
        Due.show(script, 2, 0, "CD");
        Due.is("learn(0)", script.learn(0), 12);
        Due.is("learn(1)", script.learn(1), 4);
        Due.is("learn(2)", script.learn(2), 6);
        Due.line(script, "ef gh");
        Due.line(script, "ij kl");
        return script;
    }

    private static void amongOthers() {
        PatchbayScript script = withThree();
        script.run(0, 1, 2, STOP);
        script.run(1, 1, 2, STOP);
        script.run(2, 1, 1, STOP);
        Due.is("all runs", Due.text(script, 1), "GH");
        Due.is("undo the first one", script.undo(0), false);
        Due.is("without it", Due.text(script, 1), "EF");
        Due.is("without it on the other line", Due.text(script, 2), "ij");
        Due.is("the line of none of them", Due.text(script, 0), "CD");
        Due.is("undo the second one", script.undo(1), false);
        Due.is("the third one alone", Due.text(script, 1), "EF");
        Due.is("none on the other line", Due.text(script, 2), "ij kl");
        Due.is("do the first one again", script.undo(0), true);
        Due.is("where it was, ahead of the third one", Due.text(script, 1), "GH");
        Due.is("on the other line", Due.text(script, 2), "kl ij");
        Due.is("undo the third one", script.undo(2), false);
        Due.is("the first one alone", Due.text(script, 1), "gh ef");
        Due.is("do all again", script.undo(1) && script.undo(2), true);
        Due.is("all again", Due.text(script, 1), "GH");
        Due.show(script, 2, 1, "x");
        Due.is("undo ahead of what was shown", script.undo(0), false);
        Due.is("it stays what was shown", Due.text(script, 1), "x");
        script.run(2, 2, 2, STOP);
        Due.is("a run that is undone is so for all lines", Due.text(script, 2), "IJ");
    }

    /** A run that failed on a line has no step there; one that fails once another is undone leaves the line. */
    private static void fails() {
        PatchbayScript script = new PatchbayScript();
        Due.line(script, "1");
        Due.line(script, "abcde");
        Due.line(script, "2");
        Due.show(script, 0, 0, "x");
        Due.show(script, 1, 1, "ABCDE");
        Due.is("learn to put a text", script.learn(0), 7);
        Due.is("learn to make capitals", script.learn(1), 6);
        Due.is("run the second: it fails", script.run(1, 2, 2, PatchbayScript.SKIP), 0);
        Due.is("run the first one", script.run(0, 2, 2, STOP), 1);
        Due.is("its text", Due.text(script, 2), "x");
        Due.is("run the second one", script.run(1, 2, 2, STOP), 1);
        Due.is("its text", Due.text(script, 2), "X");
        Due.is("undo the first one", script.undo(1), false);
        Due.is("the second one fails now", Due.text(script, 2), "2");
        Due.is("do it again", script.undo(1), true);
        Due.is("the second one makes it now", Due.text(script, 2), "X");
        Due.is("undo the one that failed", script.undo(0), false);
        Due.is("it had no step", Due.text(script, 2), "X");
        Due.is("do it again", script.undo(0), true);
        Due.is("it has none now either", Due.text(script, 2), "X");
    }

    /** Where a run is parted, the condition is asked of the text as it is then. */
    private static void parted() {
        PatchbayScript script = new PatchbayScript();
        Due.line(script, "ab");
        Due.line(script, "CD");
        Due.line(script, "ef");
        Due.show(script, 0, 0, "AB");
        Due.show(script, 0, 1, "cd");
        Due.is("learn to turn capitals and small letters", script.learn(0), 12);
        Due.is("by the capitals", script.condition(0), 6);
        script.run(0, 2, 2, STOP);
        script.run(0, 2, 2, STOP);
        Due.is("twice", Due.text(script, 2), "ef");
        script.undo(0);
        Due.is("the second one finds small letters now", Due.text(script, 2), "EF");
        script.undo(1);
        Due.is("none", Due.text(script, 2), "ef");
    }

    private static void wrongCalls() {
        PatchbayScript script = new PatchbayScript();
        Due.failsIndex("undo(0) without runs", () -> script.undo(0) ? 1 : 0);
        PatchbayScript other = withThree();
        other.run(0, 1, 1, STOP);
        Due.failsIndex("undo(1) with one run", () -> other.undo(1) ? 1 : 0);
        Due.failsIndex("undo(-1)", () -> other.undo(-1) ? 1 : 0);
        Due.failsIndex("undo(30)", () -> other.undo(30) ? 1 : 0);
        Due.failsIndex("undo(MAX)", () -> other.undo(Integer.MAX_VALUE) ? 1 : 0);
        Due.is("the line stays", Due.text(other, 1), "gh ef");
        Due.is("undo(0)", other.undo(0), false);
    }
}
