/** Promise 12: weight. */
public final class Promise12Weight {
    public static void main(String[] args) {
        PatchbayScript script = new PatchbayScript();
        Due.failsIndex("weight(-1, 0)", () -> script.weight(-1, 0));
        Due.failsIndex("weight(3, 0)", () -> script.weight(3, 0));
        Due.failsIndex("weight without examples", () -> script.weight(0, 0));
        script.line();
        Due.show(script, 0, 0, "abc");
        Due.is("the whole", script.weight(0, 0), 13);
        Due.is("one and two", script.weight(0, 1), 17);
        Due.is("two and one", script.weight(0, 2), 17);
        Due.is("one by one", script.weight(0, 3), 21);
        Due.failsIndex("a fifth one", () -> script.weight(0, 4));
        Due.failsIndex("weight(0, -1)", () -> script.weight(0, -1));
        Due.failsIndex("weight(0, MAX)", () -> script.weight(0, Integer.MAX_VALUE));
        Due.is("those of a task that is not learnt", script.condition(0), PatchbayScript.NONE);

        Due.line(script, "b, c");
        Due.show(script, 1, 1, "b");
        int[] weights = {4, 4, 6, 6, 6};
        for (int i = 0; i < 5; i++) {
            Due.is("weight(1, " + i + ")", script.weight(1, i), weights[i]);
        }
        Due.failsIndex("a sixth one", () -> script.weight(1, 5));
        script.pin(1, 0, PatchbayScript.CUT, 0, 1, 0);
        Due.is("with a pin", script.weight(1, 0), 9);
        Due.failsIndex("a second one with the pin", () -> script.weight(1, 1));
        fitOrNot();
        Due.end();
    }

    private static void fitOrNot() {
        PatchbayScript script = new PatchbayScript();
        script.line();
        script.line();
        Due.show(script, 0, 0, "ab");
        script.learn(0);
        script.refuse(0, 1);
        Due.is("a refused program keeps its weight", script.weight(0, 0), 10);
        Due.is("and its place", script.weight(0, 1), 14);
        Due.show(script, 0, 1, "b");
        Due.failsIndex("none of both examples", () -> script.weight(0, 0));
    }
}
