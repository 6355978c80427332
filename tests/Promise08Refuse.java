/** Promise 8: refuse. */
public final class Promise08Refuse {
    public static void main(String[] args) {
        bindsWhatIsLearnt();
        keepsTheTextAndWhatWasMade();
        refusesByCondition();
        wrongCalls();
        Due.end();
    }

    /** All of the weight 4 count, but only by the refusals is another one than the first learnt. */
    private static void bindsWhatIsLearnt() {
        PatchbayScript script = new PatchbayScript();
        Due.line(script, "a b1");
        Due.line(script, "2 c3");
        Due.show(script, 0, 0, "1");
        Due.is("learn", script.learn(0), 4);
        Due.is("the first digits", Due.atom(script, 0, false, 0), "1 6 9 0 4");
        Due.is("of the second line", Due.preview(script, 0, 1), "2");
        Due.is("refuse", script.refuse(0, 1), 1);
        Due.is("what is learnt stays until it is told", Due.preview(script, 0, 1), "2");
        Due.is("the line stays", Due.text(script, 1), "2 c3");
        Due.is("how many count stays", script.count(0), 5);
        Due.is("learn after it", script.learn(0), 4);
        Due.is("from the first digits to the last ones", Due.atom(script, 0, false, 0), "1 6 11 0 4");
        Due.is("refuse that too", script.refuse(0, 1), 2);
        Due.is("learn after two", script.learn(0), 4);
        Due.is("one that fails there does not make it", Due.atom(script, 0, false, 0), "1 8 9 0 4");
        Due.is("of the second line", Due.preview(script, 0, 1), "?");
        Due.failsState("refuse where it fails", () -> script.refuse(0, 1));
    }

    private static void keepsTheTextAndWhatWasMade() {
        PatchbayScript script = new PatchbayScript();
        Due.line(script, "x");
        Due.show(script, 0, 0, "x");
        Due.line(script, "y");
        Due.is("learn", script.learn(0), 4);
        Due.is("refuse on another line", script.refuse(0, 1), 1);
        Due.show(script, 1, 1, "z");
        Due.is("all five make that of it: none is left, though others could", script.learn(0), PatchbayScript.NONE);
        Due.is("those that count, fit or not", script.count(0), 5);
        Due.is("their weight", script.weight(0, 4), 4);
        Due.failsState("refuse of a task that has learnt nothing", () -> script.refuse(0, 1));
    }

    private static void refusesByCondition() {
        PatchbayScript script = new PatchbayScript();
        Due.line(script, "7.11.26");
        Due.line(script, "a 12");
        Due.line(script, "b c");
        Due.show(script, 1, 0, "26");
        Due.show(script, 1, 1, "a");
        Due.is("learn", script.learn(1), 8);
        Due.is("the condition", script.condition(1), 1);
        Due.is("what the second program makes", Due.preview(script, 1, 2), "b");
        Due.is("refuse what the second program makes", script.refuse(1, 2), 1);
        Due.is("the first program has another text to bear", script.learn(1), 8);
        Due.is("another second program", Due.preview(script, 1, 2), "b c");
    }

    private static void wrongCalls() {
        PatchbayScript script = new PatchbayScript();
        Due.failsIndex("refuse without lines", () -> script.refuse(0, 0));
        Due.line(script, "ab");
        Due.line(script, "12");
        Due.failsState("refuse before learning", () -> script.refuse(0, 0));
        Due.failsIndex("refuse(3, 0)", () -> script.refuse(3, 0));
        Due.failsIndex("refuse(-1, 0)", () -> script.refuse(-1, 0));
        Due.failsIndex("refuse(0, 2)", () -> script.refuse(0, 2));
        Due.failsIndex("refuse(0, -1)", () -> script.refuse(0, -1));
        Due.show(script, 0, 0, "abab-ab");
        Due.failsState("refuse before learning what was shown", () -> script.refuse(0, 0));
        script.learn(0);
        Due.failsState("refuse where it fails", () -> script.refuse(0, 1));
        Due.line(script, "cd");
        for (int i = 1; i <= 4; i++) {
            Due.is("refuse " + i, script.refuse(0, 2), i);
        }
        Due.failsState("a fifth refusal", () -> script.refuse(0, 2));
        Due.failsState("a fifth refusal where it fails", () -> script.refuse(0, 1));
        Due.failsIndex("a fifth refusal on no line", () -> script.refuse(0, 3));
        Due.is("it goes on making that", Due.preview(script, 0, 2), "cdcd-cd");
    }
}
