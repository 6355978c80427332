/** Promise 3, its boundaries: line. */
public final class Edges03Line {
    private static final String PROMISE = "Promise 3";

    public static void main(String[] args) {
        emptyAndFull();
        draftIsEmptyThen();
        byTheirNumbers();
        numbers();
        eightLines();
        eightLinesAndThirtyRuns();
        runsThatWouldBe();
        moreThanThirtyRuns();
        Due.end();
    }

    private static void emptyAndFull() {
        Due.sentence(PROMISE, "Makes the draft, which may be empty, a line; it is empty then.");
        PatchbayScript script = new PatchbayScript();
        script.line();
        Due.is("a line of the empty draft", Due.text(script, 0), "");
        Due.line(script, "a");
        Due.is("a line of one sign", Due.text(script, 1), "a");
        Due.line(script, "abcdefghij0123456789");
        Due.is("a line of a full draft", Due.text(script, 2), "abcdefghij0123456789");
    }

    private static void draftIsEmptyThen() {
        Due.sentence(PROMISE, "Makes the draft, which may be empty, a line; it is empty then.");
        PatchbayScript script = new PatchbayScript();
        Due.line(script, "ab");
        Due.failsState("show of the draft", () -> script.show(0, 0));
        script.line();
        Due.is("the next line", Due.text(script, 1), "");
        Due.is("the next sign", script.type('c'), 1);
    }

    /** The task 2 takes the first letters, 0 puts a mark behind them, 1 puts them in capitals. */
    private static void byTheirNumbers() {
        Due.sentence(PROMISE, "Tasks that are standing run on it, by their numbers.");
        PatchbayScript script = new PatchbayScript();
        Due.line(script, "ab.cd");
        Due.line(script, "bcdef");
        Due.show(script, 2, 0, "ab");
        Due.show(script, 0, 1, "bcdef.");
        Due.line(script, "bcdef");
        Due.show(script, 1, 2, "BCDEF");
        Due.is("learn(2)", script.learn(2), 4);
        Due.is("learn(0)", script.learn(0), 11);
        Due.is("learn(1)", script.learn(1), 6);
        script.stand(2, true);
        script.stand(0, true);
        script.stand(1, true);
        Due.is("the line", Due.line(script, "gh"), 3);
        Due.is("three runs", script.runs(), 3);
        Due.is("all three", Due.text(script, 3), "GH");
        script.undo(2);
        Due.is("without the last one, of the task 2", Due.text(script, 3), "GH");
        script.undo(1);
        Due.is("without that of the task 1", Due.text(script, 3), "gh.");
        script.undo(0);
        Due.is("without all", Due.text(script, 3), "gh");
        script.undo(1);
        Due.is("that of the task 1 alone", Due.text(script, 3), "GH");
    }

    private static void numbers() {
        Due.sentence(PROMISE, "Returns the number of the line.");
        PatchbayScript script = new PatchbayScript();
        for (int line = 0; line < 8; line++) {
            Due.is("line()", script.line(), line);
        }
    }

    private static void eightLines() {
        Due.sentence(PROMISE, "Throws `IllegalStateException` if there are 8, or there would be more than 30 runs");
        Twins.failState("a ninth line", Stories::eightLines, PatchbayScript::line);
        PatchbayScript script = new PatchbayScript();
        for (int line = 0; line < 8; line++) {
            script.line();
        }
        Due.failsState("a ninth line of the empty draft", script::line);
        Due.failsIndex("the ninth line", () -> script.length(8));
    }

    private static void eightLinesAndThirtyRuns() {
        Due.sentence(PROMISE, "Throws `IllegalStateException` if there are 8, or there would be more than 30 runs");
        Twins.failState("a ninth line with 31 runs", script -> {
            Stories.eightLines(script);
            for (int run = script.runs(); run < 30; run++) {
                script.run(2, 1, 1, PatchbayScript.SKIP);
            }
        }, PatchbayScript::line);
    }

    /** The tasks 0 and 2 have learnt something, and 1 does after it: so many of them stand after so many runs. */
    private static void standingAfter(PatchbayScript script, int runs, int standing) {
        Stories.withRuns(script, runs);
        script.stand(2, standing >= 2);
        script.stand(0, standing >= 1);
        script.pin(1, 2, PatchbayScript.NONE, 0, 0, 0);
        script.learn(1);
        script.stand(1, standing >= 3);
    }

    private static void runsThatWouldBe() {
        Due.sentence(PROMISE, "Throws `IllegalStateException` if there are 8, or there would be more than 30 runs");
        for (int standing = 0; standing <= 3; standing++) {
            PatchbayScript script = new PatchbayScript();
            standingAfter(script, 30 - standing, standing);
            Due.is("a line with " + standing + " standing", script.line(), 3);
            Due.is("30 runs then", script.runs(), 30);
        }
    }

    private static void moreThanThirtyRuns() {
        Due.sentence(PROMISE, "Throws `IllegalStateException` if there are 8, or there would be more than 30 runs");
        for (int i = 1; i <= 3; i++) {
            int standing = i;
            Twins.failState("a line with 31 runs, " + standing + " standing",
                    script -> standingAfter(script, 31 - standing, standing), PatchbayScript::line);
            Twins.failState("a line with 30 runs, " + standing + " standing",
                    script -> standingAfter(script, 30, standing), PatchbayScript::line);
        }
    }
}
