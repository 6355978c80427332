/** Promise 13, its boundaries: question. */
public final class Edges13Question {
    private static final String PROMISE = "Promise 13";
    private static final String RETURNS = "Returns the lowest line on which two of the programs that count for all examples"
            + " of a task, both fit, do not make the same: one fails, or they make unlike texts; those on which an example"
            + " of the task was shown left out.";
    private static final int NONE = PatchbayScript.NONE;
    private static final int CONST = PatchbayScript.CONST;

    public static void main(String[] args) {
        noLinesOrExamples();
        onlyOneCounts();
        lowestLine();
        firstAndLastLine();
        linesThatAreNotThere();
        unlikeTexts();
        oneFails();
        allFail();
        theLastOfFive();
        bothFit();
        examplesLeftOut();
        asTheTextIsNow();
        firstAndLastTask();
        changesNothing();
        noSuchTask();
        Due.end();
    }

    private static void noLinesOrExamples() {
        Due.sentence(PROMISE, "Returns the line, or NONE.");
        PatchbayScript script = new PatchbayScript();
        for (int task = 0; task < 3; task++) {
            Due.is("question(" + task + ") without lines", script.question(task), NONE);
        }
        Due.line(script, "a b");
        for (int task = 0; task < 3; task++) {
            Due.is("question(" + task + ") without examples", script.question(task), NONE);
        }
    }

    private static void onlyOneCounts() {
        Due.sentence(PROMISE, RETURNS);
        PatchbayScript script = Stories.learnt("a", "a", "b c", "");
        Due.is("five count", script.question(0), 1);
        script.pin(0, 0, PatchbayScript.CUT, 12, 15, 0);
        Due.is("one counts", script.question(0), NONE);
        script.pin(0, 0, PatchbayScript.EACH, 0, 0, 0);
        Due.is("none counts", script.question(0), NONE);
    }

    private static void lowestLine() {
        Due.sentence(PROMISE, RETURNS);
        PatchbayScript script = new PatchbayScript();
        String[] texts = {"a", "b", "c", "d e", "f", "g h"};
        for (String text : texts) {
            Due.line(script, text);
        }
        Due.show(script, 0, 0, "a");
        Due.is("the lowest of two lines", script.question(0), 3);
        Due.show(script, 1, 3, "i");
        Due.is("the other one, as that is one word now", script.question(0), 5);
        Due.show(script, 1, 5, "j");
        Due.is("none", script.question(0), NONE);
    }

    private static void firstAndLastLine() {
        Due.sentence(PROMISE, RETURNS);
        PatchbayScript script = new PatchbayScript();
        Due.line(script, "b c");
        for (int line = 1; line < 7; line++) {
            Due.line(script, "d");
        }
        Due.line(script, "e f");
        Due.show(script, 0, 1, "d");
        Due.is("the first line", script.question(0), 0);
        Due.show(script, 1, 0, "g");
        Due.is("the last line", script.question(0), 7);
    }

    /** Of an empty text, and of one without letters, a CONST makes what a CUT and a CONST do not. */
    private static void linesThatAreNotThere() {
        Due.sentence(PROMISE, RETURNS);
        PatchbayScript script = new PatchbayScript();
        Due.line(script, "a");
        script.type('a');
        script.pin(0, 1, CONST, 0, 0, 0);
        Due.show(script, 0, 0, "aa");
        for (int line = 1; line < 8; line++) {
            Due.is("a question with " + line + " lines", script.question(0), NONE);
            Due.line(script, "a");
        }
        Due.is("a question with 8 lines", script.question(0), NONE);
        Due.show(script, 1, 7, "-");
        Due.is("and one without letters", script.question(0), 7);
    }

    /** By the first and the last letters, and all from the first to the last ones. */
    private static void unlikeTexts() {
        Due.sentence(PROMISE, RETURNS);
        PatchbayScript script = Stories.learnt("1,11", ",", "2.3", "2a3", "4.5");
        Due.is("only the ways differ, on a letter", script.question(0), 2);
        PatchbayScript longer = Stories.learnt("a", "a", "b", "c c");
        Due.is("one begins like the other", longer.question(0), 2);
    }

    /** "aa" as one CONST, which the pin at the place 1 does not bind, or as a CUT and the pinned CONST. */
    private static void oneFails() {
        Due.sentence(PROMISE, RETURNS);
        PatchbayScript script = new PatchbayScript();
        Due.line(script, "a");
        Due.line(script, "a");
        Due.line(script, "1");
        script.type('a');
        script.pin(0, 1, CONST, 0, 0, 0);
        Due.show(script, 0, 0, "aa");
        Due.is("a CONST", script.weight(0, 0), 10);
        Due.is("a CUT and a CONST", script.weight(0, 1), 11);
        Due.is("the CUT of letters fails on digits, the CONST does not", script.question(0), 2);
        PatchbayScript other = Stories.learnt("a1", "1", "b", "", "c-");
        Due.is("five count", other.count(0), 5);
        Due.is("where all five fail, none makes what another one does not", other.question(0), NONE);
    }

    /** Four go beyond 20 signs at the second atom, and the fifth has nothing there; all five fail. */
    private static void allFail() {
        Due.sentence(PROMISE, RETURNS);
        PatchbayScript script = Stories.learnt("ab", "abab", "abcdefghijk lmnopqrs", "");
        Due.is("five count", script.count(0), 5);
        script.pin(0, 1, PatchbayScript.CUT, 14, 15, 0);
        Due.is("the fifth one", script.weight(0, 0), 8);
        script.pin(0, 1, NONE, 0, 0, 0);
        Due.is("a question", script.question(0), NONE);
    }

    /** Between digits: as it is, in two ways, and by the ways 1, 2, 3; on ".aB." the last two make the same. */
    private static void theLastOfFive() {
        Due.sentence(PROMISE, RETURNS);
        PatchbayScript script = Stories.learnt("1,11", ",", "2.aB.3", "", "4Ab5");
        Due.is("all five", script.question(0), 1);
        script.refuse(0, 1);
        script.learn(0);
        Due.is("what is made by the way 1", Due.preview(script, 0, 3), "AB");
        Due.is("the ways 1, 2, 3", script.question(0), 1);
        script.refuse(0, 1);
        script.learn(0);
        Due.is("the ways 2 and 3", script.question(0), 3);
        script.refuse(0, 3);
        script.learn(0);
        Due.is("the fifth alone", script.question(0), NONE);
    }

    private static void bothFit() {
        Due.sentence(PROMISE, RETURNS);
        PatchbayScript script = Stories.learnt("", "abc", "x", "");
        Due.is("all four make the same", script.question(0), NONE);
        PatchbayScript other = Stories.learnt("a", "a", "b c");
        Due.is("all are fit", other.question(0), 1);
        other.refuse(0, 1);
        Due.is("without learning, b is refused: b c and what fails are left", other.question(0), 1);
        other.learn(0);
        other.refuse(0, 1);
        Due.is("what fails is left", other.question(0), NONE);
        Due.is("five count", other.count(0), 5);
    }

    private static void examplesLeftOut() {
        Due.sentence(PROMISE, "those on which an example of the task was shown left out");
        PatchbayScript script = new PatchbayScript();
        Due.line(script, "a");
        Due.line(script, "b c");
        Due.show(script, 0, 0, "a");
        Due.is("the line 1", script.question(0), 1);
        Due.show(script, 1, 0, "f g");
        Due.is("the line 0 has an example, whatever it is by now", script.question(0), 1);
        Due.show(script, 2, 1, "d e");
        Due.is("the example of another task does not matter", script.question(0), 1);
        Due.show(script, 0, 1, "e");
        Due.is("both lines have examples", script.question(0), NONE);
        Due.line(script, "h i");
        Due.is("all take the last word", script.question(0), NONE);
    }

    private static void asTheTextIsNow() {
        Due.sentence(PROMISE, RETURNS);
        PatchbayScript script = Stories.learnt("a", "a", "b");
        Due.show(script, 1, 1, "c d");
        Due.is("by what was shown", script.question(0), 1);
        PatchbayScript other = Stories.learnt("a", "a", "b", "c d");
        Due.show(other, 2, 1, "b");
        Due.is("learn to take a word", other.learn(2), 4);
        Due.is("a line of two words", other.question(0), 2);
        other.run(2, 2, 2, PatchbayScript.STOP);
        Due.is("a run has made it one word", other.question(0), NONE);
        other.undo(0);
        Due.is("without the run", other.question(0), 2);
    }

    private static void firstAndLastTask() {
        Due.sentence(PROMISE, "`task`: 0 to 2");
        PatchbayScript script = new PatchbayScript();
        Due.line(script, "a");
        Due.line(script, "b c");
        Due.line(script, "1");
        Due.line(script, "2 3");
        Due.show(script, 0, 0, "a");
        Due.show(script, 2, 2, "1");
        Due.is("question(0)", script.question(0), 1);
        Due.is("question(1)", script.question(1), NONE);
        Due.is("question(2)", script.question(2), 3);
    }

    private static void changesNothing() {
        Due.sentence(PROMISE, RETURNS);
        PatchbayScript asked = new PatchbayScript();
        PatchbayScript other = new PatchbayScript();
        Stories.rich(asked);
        Stories.rich(other);
        for (int task = 0; task < 3; task++) {
            asked.question(task);
        }
        Due.is("what is told after questions", Probe.told(asked), Probe.told(other));
    }

    private static void noSuchTask() {
        Due.sentence(PROMISE, "Throws `IndexOutOfBoundsException` if there is no such task");
        for (int task : Twins.outside(0, 2)) {
            Twins.failIndex("question(" + task + ")", Stories::rich, script -> script.question(task));
            Due.failsIndex("question(" + task + ") of a new object", () -> new PatchbayScript().question(task));
        }
    }
}
