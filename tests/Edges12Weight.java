/** Promise 12, its boundaries: weight. */
public final class Edges12Weight {
    private static final String PROMISE = "Promise 12";
    private static final int NONE = PatchbayScript.NONE;
    private static final int CONST = PatchbayScript.CONST;

    public static void main(String[] args) {
        firstAndLast();
        inTheirOrder();
        fitOrNot();
        firstAndLastTask();
        noSuchTask();
        notSoMany();
        notSoManyOfFive();
        noneWithoutExamples();
        Due.end();
    }

    private static void firstAndLast() {
        Due.sentence(PROMISE, "Returns the weight of one of these programs.");
        PatchbayScript script = new PatchbayScript();
        script.line();
        Due.line(script, "a");
        Due.show(script, 0, 0, "abcdefghijklmnop");
        Due.is("the greatest weight", script.weight(0, 0), 64);
        Due.show(script, 1, 1, "a");
        int[] weights = {4, 4, 4, 4, 4};
        for (int which = 0; which < 5; which++) {
            Due.is("the least weight, " + which, script.weight(1, which), weights[which]);
        }
    }

    private static void inTheirOrder() {
        Due.sentence(PROMISE, "`which`: from 0");
        PatchbayScript script = new PatchbayScript();
        script.line();
        Due.line(script, "1,11");
        Due.show(script, 0, 0, "abcd");
        Due.show(script, 1, 1, ",");
        int[] weights = {16, 20, 20, 20, 24};
        int[] others = {4, 5, 6, 6, 6};
        for (int which = 4; which >= 0; which--) {
            Due.is("weight(0, " + which + ")", script.weight(0, which), weights[which]);
            Due.is("weight(1, " + which + ")", script.weight(1, which), others[which]);
        }
    }

    private static void fitOrNot() {
        Due.sentence("Promise 11", "Returns how many programs count for all examples of a task, as they are now, fit or not.");
        PatchbayScript script = Stories.learnt("", "ab", "");
        script.refuse(0, 1);
        Due.is("a refused one", script.weight(0, 0), 10);
        Due.is("another refused one", script.weight(0, 1), 14);
        script.type('a');
        script.pin(0, 0, CONST, 0, 0, 0);
        Due.is("with a pin", script.weight(0, 0), 14);
        Due.failsIndex("no second one with the pin", () -> script.weight(0, 1));
        script.pin(0, 0, NONE, 0, 0, 0);
        Due.is("without it", script.weight(0, 0), 10);
        Due.is("learn nothing", script.learn(0), NONE);
        Due.is("when nothing is learnt", script.weight(0, 1), 14);
    }

    private static void firstAndLastTask() {
        Due.sentence(PROMISE, "`task`: 0 to 2");
        PatchbayScript script = new PatchbayScript();
        script.line();
        Due.show(script, 0, 0, "a");
        Due.line(script, "");
        Due.show(script, 2, 1, "bc");
        Due.is("weight(0, 0)", script.weight(0, 0), 7);
        Due.is("weight(2, 0)", script.weight(2, 0), 10);
        Due.is("weight(2, 1)", script.weight(2, 1), 14);
        Due.failsIndex("weight(0, 1)", () -> script.weight(0, 1));
        Due.failsIndex("weight(1, 0)", () -> script.weight(1, 0));
    }

    private static void noSuchTask() {
        Due.sentence(PROMISE, "Throws `IndexOutOfBoundsException` if there is no such task, or there are not so many");
        for (int task : Twins.outside(0, 2)) {
            Twins.failIndex("weight(" + task + ", 0)", Stories::rich, script -> script.weight(task, 0));
            Twins.failIndex("weight(" + task + ", 5)", Stories::rich, script -> script.weight(task, 5));
        }
    }

    private static void notSoMany() {
        Due.sentence(PROMISE, "Throws `IndexOutOfBoundsException` if there is no such task, or there are not so many");
        for (int which : Twins.outside(0, 0)) {
            Twins.failIndex("weight(2, " + which + ")", Stories::rich, script -> script.weight(2, which));
        }
        PatchbayScript script = new PatchbayScript();
        script.line();
        Due.show(script, 0, 0, "abcdefghijklmnopq");
        for (int which : Twins.outside(1, 0)) {
            Due.failsIndex("weight(0, " + which + ") of none", () -> script.weight(0, which));
        }
    }

    private static void notSoManyOfFive() {
        Due.sentence(PROMISE, "Throws `IndexOutOfBoundsException` if there is no such task, or there are not so many");
        for (int which : Twins.outside(0, 4)) {
            Twins.failIndex("weight(0, " + which + ")", Stories::rich, script -> script.weight(0, which));
            Twins.failIndex("weight(1, " + which + ")", Stories::rich, script -> script.weight(1, which));
        }
    }

    private static void noneWithoutExamples() {
        Due.sentence(PROMISE, "Throws `IndexOutOfBoundsException` if there is no such task, or there are not so many");
        for (int which : new int[] {Integer.MIN_VALUE, -1, 0, 4, Integer.MAX_VALUE}) {
            Due.failsIndex("weight(1, " + which + ")", () -> new PatchbayScript().weight(1, which));
        }
    }
}
