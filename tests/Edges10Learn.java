/** Promise 10, its boundaries: learn; what is learnt, EdgesOrder, EdgesTasks and EdgesConditions ask. */
public final class Edges10Learn {
    private static final String PROMISE = "Promise 10";
    private static final int NONE = PatchbayScript.NONE;

    public static void main(String[] args) {
        leastAndGreatestWeight();
        ofBothPrograms();
        nothing();
        mostExamples();
        firstAndLastTask();
        changesNothingElse();
        again();
        noSuchTask();
        noExamples();
        noExamplesButAPin();
        severalExceptions();
        Due.end();
    }

    private static void leastAndGreatestWeight() {
        Due.sentence(PROMISE, "Returns the weight of what it has learnt then, of both programs together; NONE if that is"
                + " nothing.");
        Due.is("a CUT", Stories.learnt("a", "a").learn(0), 4);
        Due.is("four CONSTs of four signs", Stories.learnt("", "abcdefghijklmnop").learn(0), 64);
        Due.is("17 signs, as one of them is a CUT", Stories.learnt("-", "abcdefghijklmnop-").learn(0), NONE);
        Due.is("13 signs, of which one is a CUT", Stories.learnt("-", "abcdefghijkl-").learn(0), 52);
        Due.is("20 signs by two CUTs", Stories.learnt("abcdefghij", "abcdefghijabcdefghij").learn(0), 8);
    }

    private static void ofBothPrograms() {
        Due.sentence(PROMISE, "Returns the weight of what it has learnt then, of both programs together; NONE if that is"
                + " nothing.");
        PatchbayScript script = new PatchbayScript();
        Due.line(script, "1");
        script.line();
        Due.show(script, 0, 0, "abcdefghijklmnop");
        Due.is("learn of one", script.learn(0), 64);
        Due.show(script, 0, 1, "ponmlkjihgfedcba");
        Due.is("learn of both", script.learn(0), 128);
    }

    private static void nothing() {
        Due.sentence(PROMISE, "Returns the weight of what it has learnt then, of both programs together; NONE if that is"
                + " nothing.");
        Due.is("17 signs of nothing", Stories.learnt("", "abcdefghijklmnopq").learn(0), NONE);
        PatchbayScript script = Stories.learnt("ab", "x", "ab");
        Due.show(script, 0, 1, "y");
        Due.is("two things of one text", script.learn(0), NONE);
        Due.is("again", script.learn(0), NONE);
        PatchbayScript pinned = Stories.learnt("ab", "x");
        pinned.pin(0, 0, PatchbayScript.EACH, 0, 0, 0);
        Due.is("a pin that fails", pinned.learn(0), NONE);
        pinned.pin(0, 0, NONE, 0, 0, 0);
        Due.is("without the pin", pinned.learn(0), 7);
    }

    private static void mostExamples() {
        Due.sentence(PROMISE, "Learns a task.");
        PatchbayScript script = new PatchbayScript();
        String[] texts = {"ab cd", "e f", "ghi jkl", "m no"};
        String[] shown = {"Cd-ab", "F-e", "Jkl-ghi", "No-m"};
        for (int line = 0; line < 4; line++) {
            Due.line(script, texts[line]);
            Due.show(script, 0, line, shown[line]);
            Due.is("learn of " + (line + 1), script.learn(0), 17);
        }
        Due.line(script, "pq rs");
        Due.is("what is learnt", Due.preview(script, 0, 4), "Rs-pq");
    }

    private static void firstAndLastTask() {
        Due.sentence(PROMISE, "`task`: 0 to 2");
        PatchbayScript script = new PatchbayScript();
        script.line();
        String[] shown = {"a", "bc", "def"};
        for (int task = 2; task >= 0; task--) {
            PatchbayScript fresh = new PatchbayScript();
            fresh.line();
            Due.show(fresh, task, 0, shown[task]);
            Due.is("learn(" + task + ")", fresh.learn(task), 7 + 3 * task);
        }
        Due.show(script, 0, 0, "a");
        Due.show(script, 2, 0, "b");
        Due.is("learn(0)", script.learn(0), 7);
        Due.is("learn(2)", script.learn(2), 7);
        Due.is("what the task 0 makes", script.preview(0, 0, 0), 'a');
        Due.is("what the task 2 makes", script.preview(2, 0, 0), 'b');
        Due.is("what the task 1 makes", script.preview(1, 0, 0), '?');
    }

    private static void changesNothingElse() {
        Due.sentence(PROMISE, "Learns a task.");
        PatchbayScript script = Stories.capitals("fg");
        script.run(0, 1, 1, PatchbayScript.STOP);
        script.type('x');
        Due.is("learn again", script.learn(0), 6);
        Due.is("a line", Due.text(script, 1), "FG");
        Due.is("no run", script.runs(), 1);
        Due.is("the draft", script.type('y'), 2);
        Due.is("it does not stand by that", script.stand(0, false), false);
        Due.is("another task has not learnt", script.condition(1), NONE);
    }

    private static void again() {
        Due.sentence("Atoms, programs", "A task is learnt when this is told, and keeps what it has learnt until then");
        PatchbayScript script = Stories.learnt("a1", "a", "b", "2");
        Due.is("learn again", script.learn(0), 4);
        Due.show(script, 0, 1, "x");
        Due.is("learn of two", script.learn(0), 11);
        Due.is("it is parted", script.condition(0), 0);
        Due.show(script, 0, 2, "y");
        Due.is("learn of three: letters part none of x and y from a", script.learn(0), NONE);
        Due.is("nothing is parted", script.condition(0), NONE);
    }

    private static void noSuchTask() {
        Due.sentence(PROMISE, "Throws `IndexOutOfBoundsException` if there is no such task");
        for (int task : Twins.outside(0, 2)) {
            Twins.failIndex("learn(" + task + ")", Stories::rich, script -> script.learn(task));
        }
    }

    private static void noExamples() {
        Due.sentence(PROMISE, "Throws `IllegalStateException` if it has no examples");
        for (int i = 0; i < 3; i++) {
            int task = i;
            Twins.failState("learn(" + task + ") without examples", script -> {
                Due.line(script, "ab");
                Due.show(script, (task + 1) % 3, 0, "cd");
                script.learn((task + 1) % 3);
                script.pin(task, 0, PatchbayScript.CUT, 0, 3, 0);
                script.pin(task, 2, PatchbayScript.CUT, 0, 3, 0);
            }, script -> script.learn(task));
        }
        Due.failsState("learn(0) of a new object", () -> new PatchbayScript().learn(0));
    }

    private static void noExamplesButAPin() {
        Due.sentence("Terms", "A call that throws an exception changes nothing");
        PatchbayScript script = new PatchbayScript();
        Due.line(script, "ab");
        script.pin(0, 0, PatchbayScript.CUT, 0, 3, 0);
        Due.failsState("learn without examples", () -> script.learn(0));
        Due.show(script, 0, 0, "ab");
        Due.is("learn by the pin", script.learn(0), 8);
    }

    private static void severalExceptions() {
        Due.sentence("Terms", "if several exceptions apply, the one that its @throws lines name first is thrown");
        for (int task : Twins.outside(0, 2)) {
            Due.failsIndex("learn(" + task + ") of a new object", () -> new PatchbayScript().learn(task));
        }
    }
}
