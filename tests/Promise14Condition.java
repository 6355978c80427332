/** Promise 14: condition. */
public final class Promise14Condition {
    private static final int NONE = PatchbayScript.NONE;

    public static void main(String[] args) {
        PatchbayScript script = new PatchbayScript();
        Due.failsIndex("condition(-1)", () -> script.condition(-1));
        Due.failsIndex("condition(3)", () -> script.condition(3));
        Due.is("condition of nothing", script.condition(0), NONE);
        Due.line(script, "7.11.26");
        Due.line(script, "a/12");
        Due.show(script, 0, 0, "26");
        Due.is("an example is not learnt", script.condition(0), NONE);
        script.learn(0);
        Due.is("one program is not parted", script.condition(0), NONE);
        Due.show(script, 0, 1, "a");
        Due.is("not before learning", script.condition(0), NONE);
        Due.is("learn", script.learn(0), 8);
        Due.is("two runs of digits", script.condition(0), 1);
        Due.is("other tasks", script.condition(1), NONE);
        Due.line(script, "9");
        Due.show(script, 0, 2, "9");
        Due.is("it stays until learning", script.condition(0), 1);
        Due.is("learn of three", script.learn(0), 8);
        Due.is("the letters part them at less weight than the digits", script.condition(0), 3);
        script.pin(0, 0, PatchbayScript.EACH, 2, 0, 0);
        Due.is("nothing is learnt", script.learn(0), NONE);
        Due.is("no condition then", script.condition(0), NONE);
        greatest();
        Due.end();
    }

    private static void greatest() {
        PatchbayScript script = new PatchbayScript();
        Due.line(script, "./");
        Due.line(script, "..");
        Due.show(script, 2, 0, "x");
        Due.show(script, 2, 1, "y");
        script.learn(2);
        Due.is("the greatest condition", script.condition(2), 20);
    }
}
