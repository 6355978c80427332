/** Promise 1, its boundaries: what a new object holds; and how long an object is used. */
public final class Edges01New {
    private static final String PROMISE = "Promise 1";
    private static final int NONE = PatchbayScript.NONE;

    public static void main(String[] args) {
        noLines();
        noExamples();
        nothingLearnt();
        noRefusalsOrPins();
        emptyDraft();
        objectsOfTheirOwn();
        constants();
        calls();
        Due.end();
    }

    private static void noLines() {
        Due.sentence(PROMISE, "No lines; tasks without examples, which have learnt nothing; an empty draft.");
        PatchbayScript script = new PatchbayScript();
        for (int line : new int[] {Integer.MIN_VALUE, -1, 0, 1, 7, Integer.MAX_VALUE}) {
            Due.failsIndex("length(" + line + ")", () -> script.length(line));
            Due.failsIndex("signAt(" + line + ", 0)", () -> script.signAt(line, 0));
            Due.failsIndex("placeOf(" + line + ", 0)", () -> script.placeOf(line, 0));
            Due.failsIndex("preview(0, " + line + ", 0)", () -> script.preview(0, line, 0));
            Due.failsIndex("run(0, " + line + ", " + line + ", 0)", () -> script.run(0, line, line, 0));
        }
        Due.is("the first line", script.line(), 0);
        Due.is("there were no runs", script.runs(), 0);
        Due.is("none is asked", script.asked(), 0);
        Due.failsIndex("there is no run to undo", () -> script.undo(0) ? 1 : 0);
    }

    private static void noExamples() {
        Due.sentence(PROMISE, "No lines; tasks without examples, which have learnt nothing; an empty draft.");
        PatchbayScript script = new PatchbayScript();
        for (int i = 0; i < 3; i++) {
            int task = i;
            Due.is("count(" + task + ")", script.count(task), 0);
            Due.failsIndex("weight(" + task + ", 0)", () -> script.weight(task, 0));
            Due.is("question(" + task + ")", script.question(task), NONE);
            Due.failsState("learn(" + task + ")", () -> script.learn(task));
        }
        script.line();
        for (int task = 0; task < 3; task++) {
            Due.is("the first example of " + task, Due.show(script, task, 0, "a"), 1);
        }
    }

    private static void nothingLearnt() {
        Due.sentence(PROMISE, "No lines; tasks without examples, which have learnt nothing; an empty draft.");
        PatchbayScript script = new PatchbayScript();
        Due.line(script, "ab");
        for (int i = 0; i < 3; i++) {
            int task = i;
            Due.is("condition(" + task + ")", script.condition(task), NONE);
            Due.is("atomAt(" + task + ", false, 0, 0)", script.atomAt(task, false, 0, 0), NONE);
            Due.is("atomAt(" + task + ", true, 0, 0)", script.atomAt(task, true, 0, 0), NONE);
            Due.is("preview(" + task + ", 0, 0)", script.preview(task, 0, 0), '?');
            Due.failsState("refuse(" + task + ", 0)", () -> script.refuse(task, 0));
            Due.failsState("run(" + task + ", 0, 0, 0)", () -> script.run(task, 0, 0, 0));
            Due.failsState("stand(" + task + ", true)", () -> script.stand(task, true) ? 1 : 0);
            Due.is("stand(" + task + ", false)", script.stand(task, false), false);
        }
    }

    private static void noRefusalsOrPins() {
        Due.sentence(PROMISE, "No lines; tasks without examples, which have learnt nothing; an empty draft.");
        PatchbayScript script = new PatchbayScript();
        Due.line(script, "ab");
        Due.line(script, "cd");
        for (int task = 0; task < 3; task++) {
            for (int place = 0; place < 4; place++) {
                Due.is("pins of " + task, script.pin(task, place, NONE, 0, 0, 0), 0);
            }
            Due.show(script, task, 0, "x" + task);
            Due.is("learn(" + task + ")", script.learn(task), 10);
            Due.is("the first refusal of " + task, script.refuse(task, 1), 1);
        }
    }

    private static void emptyDraft() {
        Due.sentence(PROMISE, "No lines; tasks without examples, which have learnt nothing; an empty draft.");
        PatchbayScript script = new PatchbayScript();
        Due.failsState("a CONST of the empty draft", () -> script.pin(0, 0, PatchbayScript.CONST, 0, 0, 0));
        Due.is("a line of the empty draft", script.line(), 0);
        Due.is("its length", script.length(0), 0);
        Due.failsState("show of the empty draft", () -> script.show(0, 0));
        Due.is("the first sign", script.type('a'), 1);
    }

    private static void objectsOfTheirOwn() {
        Due.sentence(PROMISE, "No lines; tasks without examples, which have learnt nothing; an empty draft.");
        PatchbayScript rich = new PatchbayScript();
        Stories.rich(rich);
        PatchbayScript fresh = new PatchbayScript();
        Due.is("a new object after another one", Probe.told(fresh), Probe.told(new PatchbayScript()));
        Due.is("the other one keeps its runs", rich.runs(), 2);
    }

    private static void constants() {
        Due.sentence("Lines, steps", "`NONE = -1`: None.");
        Due.is("NONE", NONE, -1);
        Due.sentence("Lines, steps", "`CONST = 0, CUT = 1, EACH = 2`: Kinds of atoms.");
        Due.is("CONST", PatchbayScript.CONST, 0);
        Due.is("CUT", PatchbayScript.CUT, 1);
        Due.is("EACH", PatchbayScript.EACH, 2);
        Due.sentence("Lines, steps", "`STOP = 0, SKIP = 1, ASK = 2`: What is done where a program fails.");
        Due.is("STOP", PatchbayScript.STOP, 0);
        Due.is("SKIP", PatchbayScript.SKIP, 1);
        Due.is("ASK", PatchbayScript.ASK, 2);
    }

    /** A line and what is shown on it, 7 calls; then pinning and learning again and again. */
    private static void calls() {
        Due.sentence("What it is", "An object is used for at most 512 calls after it has been made");
        PatchbayScript script = new PatchbayScript();
        Due.line(script, "a");
        Due.show(script, 0, 0, "abcd");
        int calls = 2 + 5;
        while (calls + 3 <= 512) {
            script.pin(0, calls % 4, PatchbayScript.EACH, calls % 3, 0, 0);
            script.learn(0);
            script.pin(0, calls % 4, NONE, 0, 0, 0);
            calls += 3;
        }
        for (; calls < 511; calls++) {
            script.learn(0);
        }
        Due.is("the call 512", script.learn(0), 16);
    }
}
