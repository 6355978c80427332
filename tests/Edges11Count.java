/** Promise 11, its boundaries: count. */
public final class Edges11Count {
    private static final String PROMISE = "Promise 11";
    private static final String RETURNS = "Returns 0 to 5; 0 without examples.";
    private static final int NONE = PatchbayScript.NONE;
    private static final int CONST = PatchbayScript.CONST;

    public static void main(String[] args) {
        withoutExamples();
        zeroToFive();
        asTheyAreNow();
        fitOrNot();
        firstAndLastTask();
        changesNothing();
        noSuchTask();
        Due.end();
    }

    private static void withoutExamples() {
        Due.sentence(PROMISE, RETURNS);
        PatchbayScript script = new PatchbayScript();
        Due.line(script, "ab");
        script.pin(1, 0, PatchbayScript.CUT, 0, 3, 0);
        for (int task = 0; task < 3; task++) {
            Due.is("count(" + task + ")", script.count(task), 0);
        }
    }

    private static int countOf(String shown, String... pins) {
        PatchbayScript script = new PatchbayScript();
        script.line();
        Due.show(script, 0, 0, shown);
        for (int place = 0; place < pins.length; place++) {
            if (!pins[place].isEmpty()) {
                Due.type(script, pins[place]);
                script.pin(0, place, CONST, 0, 0, 0);
            }
        }
        return script.count(0);
    }

    private static void zeroToFive() {
        Due.sentence(PROMISE, RETURNS);
        Due.is("none", countOf("ab", "x"), 0);
        Due.is("one", countOf("a"), 1);
        Due.is("two", countOf("ab"), 2);
        Due.is("three of four signs: abcd, a and b and the rest", countOf("abcd", "", "b"), 3);
        Due.is("four", countOf("abc"), 4);
        Due.is("just five", countOf("abcd", "", "", "c"), 5);
        Due.is("five of six", countOf("abcd", "", "", "d"), 5);
        Due.is("five of eight", countOf("abcd"), 5);
        Due.is("one, of the most signs", countOf("abcdefghijklmnop"), 1);
        Due.is("none, of one sign more", countOf("abcdefghijklmnopq"), 0);
    }

    private static void asTheyAreNow() {
        Due.sentence(PROMISE, "Returns how many programs count for all examples of a task, as they are now, fit or not.");
        PatchbayScript script = new PatchbayScript();
        script.line();
        script.line();
        Due.line(script, "1");
        Due.show(script, 0, 0, "ab");
        Due.is("of one", script.count(0), 2);
        script.learn(0);
        Due.show(script, 0, 1, "ab");
        Due.is("of two that are alike", script.count(0), 2);
        Due.is("again", script.count(0), 2);
        script.type('a');
        script.pin(0, 0, CONST, 0, 0, 0);
        Due.is("with a pin", script.count(0), 1);
        script.pin(0, 0, NONE, 0, 0, 0);
        Due.is("without it", script.count(0), 2);
        Due.show(script, 0, 2, "b");
        Due.is("of three", script.count(0), 0);
        Due.is("learn: by a condition", script.learn(0), 17);
        Due.is("of all three together, though it is parted", script.count(0), 0);
    }

    private static void fitOrNot() {
        Due.sentence(PROMISE, "Returns how many programs count for all examples of a task, as they are now, fit or not.");
        PatchbayScript script = Stories.learnt("", "ab", "");
        script.refuse(0, 1);
        Due.is("both are refused", script.count(0), 2);
        Due.is("learn", script.learn(0), NONE);
        Due.is("and count when nothing is learnt", script.count(0), 2);
    }

    private static void firstAndLastTask() {
        Due.sentence(PROMISE, "`task`: 0 to 2");
        PatchbayScript script = new PatchbayScript();
        script.line();
        Due.line(script, "x");
        Due.show(script, 0, 0, "a");
        Due.show(script, 2, 1, "xyz");
        Due.is("count(0)", script.count(0), 1);
        Due.is("count(1)", script.count(1), 0);
        Due.is("count(2)", script.count(2), 5);
        Due.is("count(0) again", script.count(0), 1);
    }

    private static void changesNothing() {
        Due.sentence(PROMISE, "Returns how many programs count for all examples of a task, as they are now, fit or not.");
        PatchbayScript asked = new PatchbayScript();
        PatchbayScript other = new PatchbayScript();
        Stories.rich(asked);
        Stories.rich(other);
        for (int task = 0; task < 3; task++) {
            asked.count(task);
        }
        Due.is("what is told after counting", Probe.told(asked), Probe.told(other));
    }

    private static void noSuchTask() {
        Due.sentence(PROMISE, "Throws `IndexOutOfBoundsException` if there is no such task");
        for (int task : Twins.outside(0, 2)) {
            Twins.failIndex("count(" + task + ")", Stories::rich, script -> script.count(task));
            Due.failsIndex("count(" + task + ") of a new object", () -> new PatchbayScript().count(task));
        }
    }
}
