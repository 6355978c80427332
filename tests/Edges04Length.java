/** Promise 4, its boundaries: length. */
public final class Edges04Length {
    private static final String PROMISE = "Promise 4";

    public static void main(String[] args) {
        leastAndGreatest();
        ofTheTextAsItIs();
        lines();
        noSuchLine();
        noneOfEight();
        Due.end();
    }

    private static void leastAndGreatest() {
        Due.sentence(PROMISE, "Returns how long the text of a line is.");
        PatchbayScript script = new PatchbayScript();
        String text = "abcdefghij0123456789";
        for (int size : new int[] {0, 1, 2, 19, 20}) {
            Due.is("a text of " + size, script.length(Due.line(script, text.substring(20 - size))), size);
        }
    }

    private static void ofTheTextAsItIs() {
        Due.sentence(PROMISE, "Returns how long the text of a line is.");
        PatchbayScript script = Stories.learnt("abcde", "abcdeabcdeabcdeabcde", "fg", "");
        Due.is("what was shown", script.length(0), 20);
        script.run(0, 1, 2, PatchbayScript.SKIP);
        Due.is("what a run made", script.length(1), 8);
        Due.is("where it failed", script.length(2), 0);
        script.undo(0);
        Due.is("without the run", script.length(1), 2);
        Due.show(script, 1, 2, "h");
        Due.is("what was shown on an empty line", script.length(2), 1);
    }

    private static void lines() {
        Due.sentence(PROMISE, "`line`: a line");
        PatchbayScript script = new PatchbayScript();
        for (int line = 0; line < 8; line++) {
            Due.line(script, "abcdefgh".substring(line));
        }
        for (int line = 0; line < 8; line++) {
            Due.is("length(" + line + ")", script.length(line), 8 - line);
        }
    }

    private static void noSuchLine() {
        Due.sentence(PROMISE, "Throws `IndexOutOfBoundsException` if there is no such line");
        for (int line : Twins.outside(0, 2)) {
            Twins.failIndex("length(" + line + ")", Stories::rich, script -> script.length(line));
        }
        Due.failsIndex("length(0) of a new object", () -> new PatchbayScript().length(0));
        PatchbayScript script = new PatchbayScript();
        for (int i = 0; i < 8; i++) {
            int line = i;
            Due.failsIndex("length(" + line + ") ahead of it", () -> script.length(line));
            script.line();
            Due.is("length(" + line + ")", script.length(line), 0);
        }
    }

    private static void noneOfEight() {
        Due.sentence(PROMISE, "Throws `IndexOutOfBoundsException` if there is no such line");
        for (int line : Twins.outside(0, 7)) {
            Twins.failIndex("length(" + line + ") of eight", Stories::eightLines, script -> script.length(line));
        }
    }
}
