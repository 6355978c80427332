/** Promise 8, its boundaries: refuse. */
public final class Edges08Refuse {
    private static final String PROMISE = "Promise 8";
    private static final String STATE = "Throws `IllegalStateException` if the task has learnt nothing, or that fails on"
            + " this line, or it has 4 refusals";
    private static final int NONE = PatchbayScript.NONE;

    public static void main(String[] args) {
        ofTheTextAsItIs();
        onTheLineOfAnExample();
        changesNoLine();
        byCondition();
        howMany();
        firstAndLastTaskAndLine();
        noSuchTask();
        noSuchLine();
        learntNothing();
        failsOnThisLine();
        fourRefusals();
        severalExceptions();
        Due.end();
    }

    /** The line is "c d" when it is refused, and later another text, of which nothing is refused. */
    private static void ofTheTextAsItIs() {
        Due.sentence(PROMISE, "Refuses that a task makes of the text of a line what it makes by what it has learnt.");
        PatchbayScript script = Stories.learnt("ab", "ab", "e f", "c g");
        Due.show(script, 1, 1, "c d");
        script.refuse(0, 1);
        Due.show(script, 2, 1, "h");
        Due.is("learn", script.learn(0), 4);
        Due.is("what makes c of 'c d' is not learnt", Due.atom(script, 0, false, 0), "1 12 17 0 4");
        Due.is("though of 'c g' it could make it", Due.preview(script, 0, 2), "c g");
        script.refuse(0, 1);
        Due.is("learn: all make h of 'h'", script.learn(0), NONE);
    }

    private static void onTheLineOfAnExample() {
        Due.sentence(PROMISE, "Refuses that a task makes of the text of a line what it makes by what it has learnt.");
        PatchbayScript script = Stories.learnt("ab", "AB");
        Due.is("refuse AB of 'AB', which is there by now", script.refuse(0, 0), 1);
        Due.is("learn: what makes AB of 'ab' also makes it of 'AB'", script.learn(0), NONE);
        PatchbayScript other = Stories.learnt("ab", "a-b-ab");
        Due.is("refuse what it makes of 'a-b-ab'", other.refuse(0, 0), 1);
        Due.is("it goes on making a-b-ab of 'ab'", other.learn(0) != NONE, true);
    }

    private static void changesNoLine() {
        Due.sentence(PROMISE, "Refuses that a task makes of the text of a line what it makes by what it has learnt.");
        PatchbayScript script = Stories.capitals("fg");
        script.type('x');
        script.refuse(0, 1);
        Due.is("the line", Due.text(script, 1), "fg");
        Due.is("the draft", script.type('y'), 2);
        Due.is("what is learnt", Due.preview(script, 0, 1), "FG");
        Due.is("no run", script.runs(), 0);
    }

    private static void byCondition() {
        Due.sentence(PROMISE, "Refuses that a task makes of the text of a line what it makes by what it has learnt.");
        PatchbayScript script = new PatchbayScript();
        String[] texts = {"12", "a", "2 3", "b c", "-"};
        for (String text : texts) {
            Due.line(script, text);
        }
        Due.show(script, 0, 0, "12-12");
        Due.show(script, 0, 1, "a");
        Due.is("learn", script.learn(0), 19);
        Due.is("what the first program makes", Due.preview(script, 0, 2), "2-2");
        Due.is("what the second program makes", Due.preview(script, 0, 3), "b");
        Due.is("refuse what the second one makes", script.refuse(0, 3), 1);
        Due.failsState("refuse where the second one fails", () -> script.refuse(0, 4));
        Due.is("learn", script.learn(0), 19);
        Due.is("another second one", Due.preview(script, 0, 3), "b c");
        Due.is("refuse what the first one makes", script.refuse(0, 2), 2);
        Due.is("learn", script.learn(0), 19);
        Due.is("another first one", Due.preview(script, 0, 2), "2-2 3");
    }

    private static void howMany() {
        Due.sentence(PROMISE, "Returns how many refusals the task has then.");
        PatchbayScript script = new PatchbayScript();
        Due.line(script, "ab");
        Due.line(script, "cd");
        for (int task = 0; task < 3; task++) {
            Due.show(script, task, 0, "x");
            script.learn(task);
        }
        for (int i = 1; i <= 4; i++) {
            for (int task = 0; task < 3; task++) {
                Due.is("refuse(" + task + ", " + i % 2 + ")", script.refuse(task, i % 2), i);
            }
        }
    }

    private static void firstAndLastTaskAndLine() {
        Due.sentence(PROMISE, "`task`: 0 to 2");
        PatchbayScript script = new PatchbayScript();
        Stories.eightLines(script);
        Due.is("refuse(2, 0)", script.refuse(2, 0), 1);
        Due.is("refuse(2, 7)", script.refuse(2, 7), 2);
        Due.is("refuse(0, 0)", script.refuse(0, 0), 2);
    }

    private static void noSuchTask() {
        Due.sentence(PROMISE, "Throws `IndexOutOfBoundsException` if there is no such task or line");
        for (int task : Twins.outside(0, 2)) {
            Twins.failIndex("refuse(" + task + ", 0)", Stories::rich, script -> script.refuse(task, 0));
        }
    }

    private static void noSuchLine() {
        Due.sentence(PROMISE, "Throws `IndexOutOfBoundsException` if there is no such task or line");
        for (int line : Twins.outside(0, 2)) {
            Twins.failIndex("refuse(2, " + line + ")", Stories::rich, script -> script.refuse(2, line));
        }
        for (int line : Twins.outside(0, 7)) {
            Twins.failIndex("refuse(2, " + line + ") of eight", Stories::eightLines, script -> script.refuse(2, line));
        }
    }

    private static void learntNothing() {
        Due.sentence(PROMISE, STATE);
        Twins.failState("refuse of what is shown, not learnt", Stories::rich, script -> script.refuse(1, 1));
        Twins.failState("refuse of what is learnt no more", script -> {
            Stories.rich(script);
            script.pin(2, 0, PatchbayScript.EACH, 0, 0, 0);
            script.learn(2);
        }, script -> script.refuse(2, 2));
        PatchbayScript script = new PatchbayScript();
        script.line();
        Due.failsState("refuse of a new task", () -> script.refuse(0, 0));
    }

    private static void failsOnThisLine() {
        Due.sentence(PROMISE, STATE);
        Twins.failState("refuse where there are no letters", script -> {
            Stories.withDraft(script, "34 .");
            script.line();
        }, script -> script.refuse(0, 3));
        PatchbayScript script = Stories.learnt("bcdef", "bcdefx", "abcdefghijklmnopqrs", "abcdefghijklmnopqrst");
        Due.is("refuse what has 20 signs", script.refuse(0, 1), 1);
        Due.failsState("refuse what would have 21 signs", () -> script.refuse(0, 2));
    }

    private static void withRefusals(PatchbayScript script, int refusals) {
        Stories.rich(script);
        for (int i = 0; i < refusals; i++) {
            script.refuse(2, i % 3);
        }
    }

    private static void fourRefusals() {
        Due.sentence(PROMISE, STATE);
        PatchbayScript script = new PatchbayScript();
        withRefusals(script, 3);
        Due.is("a fourth refusal", script.refuse(2, 0), 4);
        for (int i = 0; i < 3; i++) {
            int line = i;
            Twins.failState("a fifth refusal on " + line, of -> withRefusals(of, 4), of -> of.refuse(2, line));
        }
        Due.is("another task has room", script.refuse(0, 0), 2);
    }

    private static void severalExceptions() {
        Due.sentence("Terms", "if several exceptions apply, the one that its @throws lines name first is thrown");
        for (int line : Twins.outside(0, 2)) {
            Twins.failIndex("a fifth refusal on " + line, script -> withRefusals(script, 4),
                    script -> script.refuse(2, line));
            Twins.failIndex("refuse of nothing on " + line, Stories::rich, script -> script.refuse(1, line));
        }
        Twins.failIndex("refuse(3, 3)", Stories::rich, script -> script.refuse(3, 3));
    }
}
