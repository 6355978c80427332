/** Promise 20, its boundaries: stand. */
public final class Edges20Stand {
    private static final String PROMISE = "Promise 20";
    private static final int NONE = PatchbayScript.NONE;

    public static void main(String[] args) {
        whetherItWas();
        firstAndLastTask();
        linesThatCome();
        oneThatHasLearntNothing();
        noSuchTask();
        learntNothing();
        severalExceptions();
        Due.end();
    }

    private static void whetherItWas() {
        Due.sentence(PROMISE, "Returns whether it was.");
        PatchbayScript script = Stories.capitals();
        Due.is("no, and does not", script.stand(0, false), false);
        Due.is("no, and does", script.stand(0, true), false);
        Due.is("yes, and does", script.stand(0, true), true);
        Due.is("yes, and does not", script.stand(0, false), true);
        Due.is("no again", script.stand(0, false), false);
    }

    private static void firstAndLastTask() {
        Due.sentence(PROMISE, "`task`: 0 to 2");
        PatchbayScript script = new PatchbayScript();
        script.line();
        for (int task = 0; task < 3; task++) {
            Due.show(script, task, 0, "x");
            script.learn(task);
        }
        for (int task = 0; task < 3; task++) {
            Due.is("stand(" + task + ", true)", script.stand(task, true), false);
            for (int other = 0; other < 3; other++) {
                Due.is("stand(" + other + ", ..)", script.stand(other, other == task), other == task);
            }
            script.stand(task, false);
        }
    }

    private static void linesThatCome() {
        Due.sentence(PROMISE, "`is`: whether it is standing then");
        PatchbayScript script = Stories.capitals("b");
        script.stand(0, true);
        Due.is("no run by that", script.runs(), 0);
        Due.is("a line that was there", Due.text(script, 1), "b");
        Due.line(script, "c");
        Due.is("a line that comes", Due.text(script, 2), "C");
        script.stand(0, true);
        Due.line(script, "d");
        Due.is("told twice, it runs once", script.runs(), 2);
        script.stand(0, false);
        Due.line(script, "e");
        Due.is("a line that comes then", Due.text(script, 4), "e");
        Due.is("those that were there", Due.text(script, 2), "C");
    }

    private static void oneThatHasLearntNothing() {
        Due.sentence(PROMISE, "Throws `IllegalStateException` if it has learnt nothing, and is is true");
        PatchbayScript script = new PatchbayScript();
        for (int task = 0; task < 3; task++) {
            Due.is("stand(" + task + ", false)", script.stand(task, false), false);
        }
        PatchbayScript other = Stories.capitals();
        other.stand(0, true);
        other.pin(0, 0, PatchbayScript.EACH, 0, 0, 0);
        Due.is("learn nothing", other.learn(0), NONE);
        Due.is("it does not stand any more", other.stand(0, false), false);
    }

    private static void noSuchTask() {
        Due.sentence(PROMISE, "Throws `IndexOutOfBoundsException` if there is no such task");
        for (int task : Twins.outside(0, 2)) {
            Twins.failIndex("stand(" + task + ", true)", Stories::rich, script -> script.stand(task, true) ? 1 : 0);
            Twins.failIndex("stand(" + task + ", false)", Stories::rich, script -> script.stand(task, false) ? 1 : 0);
        }
    }

    private static void learntNothing() {
        Due.sentence(PROMISE, "Throws `IllegalStateException` if it has learnt nothing, and is is true");
        Twins.failState("stand(1, true) of what is shown, not learnt", Stories::rich,
                script -> script.stand(1, true) ? 1 : 0);
        Twins.failState("stand(2, true) of what is learnt no more", script -> {
            Stories.rich(script);
            script.stand(2, true);
            script.pin(2, 0, PatchbayScript.EACH, 0, 0, 0);
            script.learn(2);
        }, script -> script.stand(2, true) ? 1 : 0);
        for (int i = 0; i < 3; i++) {
            int task = i;
            Due.failsState("stand(" + task + ", true) of a new object", () -> new PatchbayScript().stand(task, true) ? 1 : 0);
        }
    }

    private static void severalExceptions() {
        Due.sentence("Terms", "if several exceptions apply, the one that its @throws lines name first is thrown");
        for (int task : Twins.outside(0, 2)) {
            Due.failsIndex("stand(" + task + ", true) of a new object",
                    () -> new PatchbayScript().stand(task, true) ? 1 : 0);
        }
    }
}
