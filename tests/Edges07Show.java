/** Promise 7, its boundaries: show. */
public final class Edges07Show {
    private static final String PROMISE = "Promise 7";
    private static final String FULL = "abcdefghij0123456789";

    public static void main(String[] args) {
        exampleAndStep();
        draftIsEmptyThen();
        leastAndGreatestDraft();
        firstAndLastTaskAndLine();
        howMany();
        noSuchTask();
        noSuchLine();
        emptyDraft();
        fourExamples();
        oneOnThisLine();
        severalExceptions();
        Due.end();
    }

    private static void exampleAndStep() {
        Due.sentence(PROMISE, "Shows on a line that it becomes the draft, which is empty then: an example of a task, and a"
                + " step of the line.");
        PatchbayScript script = new PatchbayScript();
        Due.line(script, "ab 1");
        Due.show(script, 0, 0, "ab");
        Due.is("the line", Due.text(script, 0), "ab");
        Due.is("programs count", script.count(0), 5);
        Due.is("learn", script.learn(0), 4);
        Due.show(script, 1, 0, "ab");
        Due.is("the line, shown to be what it is", Due.text(script, 0), "ab");
        Due.is("an example all the same", script.learn(1), 4);
    }

    private static void draftIsEmptyThen() {
        Due.sentence(PROMISE, "Shows on a line that it becomes the draft, which is empty then: an example of a task, and a"
                + " step of the line.");
        PatchbayScript script = new PatchbayScript();
        script.line();
        Due.show(script, 0, 0, "ab");
        Due.failsState("show of the draft again", () -> script.show(1, 0));
        Due.is("the next sign", script.type('c'), 1);
        script.show(1, 0);
        Due.is("the line", Due.text(script, 0), "c");
    }

    private static void leastAndGreatestDraft() {
        Due.sentence(PROMISE, "Shows on a line that it becomes the draft, which is empty then: an example of a task, and a"
                + " step of the line.");
        PatchbayScript script = new PatchbayScript();
        Due.line(script, FULL);
        Due.show(script, 0, 0, " ");
        Due.is("one sign", Due.text(script, 0), " ");
        Due.show(script, 1, 0, FULL);
        Due.is("20 signs", Due.text(script, 0), FULL);
        Due.is("learn of 20 signs to a blank: a CONST", script.learn(0), 7);
    }

    private static void firstAndLastTaskAndLine() {
        Due.sentence(PROMISE, "`task`: 0 to 2");
        PatchbayScript script = new PatchbayScript();
        Stories.eightLines(script);
        Due.is("show(0, 7)", script.show(0, 7), 2);
        script.type('a');
        Due.is("show(2, 7)", script.show(2, 7), 2);
        script.type('b');
        Due.is("show(2, 0)", script.show(2, 0), 3);
        Due.is("the last line", Due.text(script, 7), "a");
        Due.is("the first line", Due.text(script, 0), "b");
    }

    private static void howMany() {
        Due.sentence(PROMISE, "Returns how many examples the task has then.");
        PatchbayScript script = new PatchbayScript();
        for (int line = 0; line < 4; line++) {
            script.line();
        }
        for (int i = 0; i < 4; i++) {
            for (int task = 0; task < 3; task++) {
                Due.is("show(" + task + ", " + (3 - i) + ")", Due.show(script, task, 3 - i, "a"), i + 1);
            }
        }
    }

    private static void noSuchTask() {
        Due.sentence(PROMISE, "Throws `IndexOutOfBoundsException` if there is no such task or line");
        for (int task : Twins.outside(0, 2)) {
            Twins.failIndex("show(" + task + ", 2)", Stories::rich, script -> script.show(task, 2));
        }
    }

    private static void noSuchLine() {
        Due.sentence(PROMISE, "Throws `IndexOutOfBoundsException` if there is no such task or line");
        for (int line : Twins.outside(0, 2)) {
            Twins.failIndex("show(0, " + line + ")", Stories::rich, script -> script.show(0, line));
        }
        for (int line : Twins.outside(0, 7)) {
            Twins.failIndex("show(0, " + line + ") of eight", Stories::eightLines, script -> script.show(0, line));
        }
        Due.failsIndex("show(0, 0) of a new object", () -> new PatchbayScript().show(0, 0));
    }

    private static void emptyDraft() {
        Due.sentence(PROMISE, "Throws `IllegalStateException` if the draft is empty, or the task has 4 examples, or one on"
                + " this line");
        Twins.failState("show(0, 2) of nothing", script -> Stories.withDraft(script, ""), script -> script.show(0, 2));
    }

    /** The task 1 has an example on the line 1 by then. */
    private static void withExamples(PatchbayScript script, int examples) {
        Stories.eightLines(script);
        for (int i = 1; i < examples; i++) {
            script.type('z');
            script.show(1, 1 + i);
        }
        Due.type(script, "x");
    }

    private static void fourExamples() {
        Due.sentence(PROMISE, "Throws `IllegalStateException` if the draft is empty, or the task has 4 examples, or one on"
                + " this line");
        PatchbayScript script = new PatchbayScript();
        withExamples(script, 3);
        Due.is("a fourth example", script.show(1, 7), 4);
        script.type('x');
        Due.failsState("a fifth example", () -> script.show(1, 6));
        Twins.failState("a fifth example", of -> withExamples(of, 4), of -> of.show(1, 7));
        Due.is("another task has room", script.show(0, 7), 2);
    }

    private static void oneOnThisLine() {
        Due.sentence(PROMISE, "Throws `IllegalStateException` if the draft is empty, or the task has 4 examples, or one on"
                + " this line");
        Twins.failState("a second example on the line 0", Stories::rich, script -> script.show(0, 0));
        Twins.failState("a second example on the line 2", Stories::rich, script -> script.show(2, 2));
        Twins.failState("a second example, by the first of four", script -> withExamples(script, 3),
                script -> script.show(1, 1));
        Twins.failState("a second example, by the last of three", script -> withExamples(script, 3),
                script -> script.show(1, 3));
        PatchbayScript script = new PatchbayScript();
        Stories.rich(script);
        Due.is("another task on this line", script.show(1, 0), 2);
    }

    private static void severalExceptions() {
        Due.sentence("Terms", "if several exceptions apply, the one that its @throws lines name first is thrown");
        for (int task : Twins.outside(0, 2)) {
            Twins.failIndex("show(" + task + ", 0) of nothing", script -> Stories.withDraft(script, ""),
                    script -> script.show(task, 0));
        }
        for (int line : Twins.outside(0, 7)) {
            Twins.failIndex("a fifth example, on the line " + line, script -> withExamples(script, 4),
                    script -> script.show(1, line));
        }
        Twins.failIndex("show(3, 3)", Stories::rich, script -> script.show(3, 3));
    }
}
