/** Promise 16, its boundaries: preview. */
public final class Edges16Preview {
    private static final String PROMISE = "Promise 16";
    private static final String RETURNS = "Returns the sign; \"?\" if it fails, or the task has learnt nothing; \"!\" behind"
            + " the last sign.";
    private static final int MAX = Integer.MAX_VALUE;

    public static void main(String[] args) {
        allPlaces();
        behindTheLastSign();
        fails();
        learntNothing();
        ofTheTextAsItIs();
        byWhatIsLearnt();
        changesNothing();
        firstAndLastTaskAndLine();
        noSuchTask();
        noSuchLine();
        placeBelowZero();
        Due.end();
    }

    private static void allPlaces() {
        Due.sentence(PROMISE, "`place`: from 0");
        String text = "abcdefghij0123456789";
        PatchbayScript script = Stories.pinned(PatchbayScript.CUT, 0, 3, 0, "x", "x", text, "z");
        for (int place = 0; place < 20; place++) {
            Due.is("preview(0, 1, " + place + ")", script.preview(0, 1, place), text.charAt(place));
        }
        Due.is("the only sign", script.preview(0, 2, 0), 'z');
    }

    private static void behindTheLastSign() {
        Due.sentence(PROMISE, RETURNS);
        PatchbayScript script = Stories.pinned(PatchbayScript.CUT, 0, 3, 0, "x", "x", "abcdefghij0123456789", "z");
        for (int place : new int[] {20, 21, 32, MAX - 1, MAX}) {
            Due.is("behind 20 signs, at " + place, script.preview(0, 1, place), '!');
        }
        for (int place : new int[] {1, 2, 20, MAX}) {
            Due.is("behind one sign, at " + place, script.preview(0, 2, place), '!');
        }
    }

    private static void fails() {
        Due.sentence(PROMISE, RETURNS);
        PatchbayScript script = Stories.learnt("bcdef", "bcdefx", "abcdefghijklmnopqrs", "abcdefghijklmnopqrst", "1", "");
        Due.is("the last of 20 signs", script.preview(0, 1, 19), 'x');
        Due.is("behind 20 signs", script.preview(0, 1, 20), '!');
        for (int place : new int[] {0, 1, 19, 20, 21, MAX}) {
            Due.is("of 21 signs, at " + place, script.preview(0, 2, place), '?');
            Due.is("without letters, at " + place, script.preview(0, 3, place), '?');
            Due.is("of the empty text, at " + place, script.preview(0, 4, place), '?');
        }
    }

    private static void learntNothing() {
        Due.sentence(PROMISE, RETURNS);
        PatchbayScript script = new PatchbayScript();
        Due.line(script, "ab");
        for (int place : new int[] {0, 1, 2, 20, MAX}) {
            Due.is("of a new task, at " + place, script.preview(0, 0, place), '?');
        }
        Due.show(script, 0, 0, "x");
        Due.is("what is shown is not learnt", script.preview(0, 0, 0), '?');
        script.learn(0);
        Due.is("it is learnt", script.preview(0, 0, 0), 'x');
        script.pin(0, 0, PatchbayScript.EACH, 0, 0, 0);
        script.learn(0);
        Due.is("it is learnt no more", script.preview(0, 0, 0), '?');
        Due.is("nor behind it", script.preview(0, 0, 1), '?');
    }

    private static void ofTheTextAsItIs() {
        Due.sentence(PROMISE, "Returns a sign of what a task would make of the text of a line by what it has learnt.");
        PatchbayScript script = Stories.learnt("ab cd", "cd ab", "e f");
        Due.is("of the line", Due.preview(script, 0, 1), "f e");
        script.run(0, 1, 1, PatchbayScript.STOP);
        Due.is("of what a run has made", Due.preview(script, 0, 1), "e f");
        script.undo(0);
        Due.is("without the run", Due.preview(script, 0, 1), "f e");
        Due.show(script, 1, 1, "g h");
        Due.is("of what was shown", Due.preview(script, 0, 1), "h g");
        Due.is("of the line of its example", Due.preview(script, 0, 0), "ab cd");
    }

    private static void byWhatIsLearnt() {
        Due.sentence(PROMISE, "Returns a sign of what a task would make of the text of a line by what it has learnt.");
        PatchbayScript script = Stories.capitals("fg", "1");
        Due.show(script, 0, 2, "x");
        script.refuse(0, 1);
        Due.is("not by what is shown since, or refused", Due.preview(script, 0, 1), "FG");
    }

    private static void changesNothing() {
        Due.sentence(PROMISE, "Returns a sign of what a task would make of the text of a line by what it has learnt.");
        PatchbayScript asked = new PatchbayScript();
        PatchbayScript other = new PatchbayScript();
        Stories.rich(asked);
        Stories.rich(other);
        for (int task = 0; task < 3; task++) {
            for (int line = 0; line < 3; line++) {
                asked.preview(task, line, task);
            }
        }
        Due.is("what is told after previews", Probe.told(asked), Probe.told(other));
    }

    private static void firstAndLastTaskAndLine() {
        Due.sentence(PROMISE, "`task`: 0 to 2");
        PatchbayScript script = new PatchbayScript();
        Stories.eightLines(script);
        Due.is("preview(0, 0, 0)", script.preview(0, 0, 0), 'A');
        Due.is("preview(0, 7, 0)", script.preview(0, 7, 0), '?');
        Due.is("preview(1, 0, 0)", script.preview(1, 0, 0), '?');
        Due.is("preview(2, 0, 0)", script.preview(2, 0, 0), 'x');
        Due.is("preview(2, 7, 0)", script.preview(2, 7, 0), 'x');
        Due.is("preview(2, 7, 1)", script.preview(2, 7, 1), '!');
    }

    private static void noSuchTask() {
        Due.sentence(PROMISE, "Throws `IndexOutOfBoundsException` if there is no such task or line, or place is below 0");
        for (int task : Twins.outside(0, 2)) {
            Twins.failIndex("preview(" + task + ", 0, 0)", Stories::rich, script -> script.preview(task, 0, 0));
        }
    }

    private static void noSuchLine() {
        Due.sentence(PROMISE, "Throws `IndexOutOfBoundsException` if there is no such task or line, or place is below 0");
        for (int line : Twins.outside(0, 2)) {
            Twins.failIndex("preview(0, " + line + ", 0)", Stories::rich, script -> script.preview(0, line, 0));
            Twins.failIndex("preview(1, " + line + ", 0) of nothing", Stories::rich, script -> script.preview(1, line, 0));
        }
        for (int line : Twins.outside(0, 7)) {
            Twins.failIndex("preview(0, " + line + ", 0) of eight", Stories::eightLines,
                    script -> script.preview(0, line, 0));
        }
    }

    private static void placeBelowZero() {
        Due.sentence(PROMISE, "Throws `IndexOutOfBoundsException` if there is no such task or line, or place is below 0");
        for (int place : new int[] {Integer.MIN_VALUE, -2, -1}) {
            Twins.failIndex("preview(0, 0, " + place + ")", Stories::rich, script -> script.preview(0, 0, place));
            Twins.failIndex("preview(1, 0, " + place + ") of nothing", Stories::rich,
                    script -> script.preview(1, 0, place));
        }
        Twins.failIndex("preview(0, 3, -1) where there is neither", Stories::rich, script -> script.preview(0, 3, -1));
    }
}
