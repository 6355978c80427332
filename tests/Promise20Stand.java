/** Promise 20: stand. */
public final class Promise20Stand {
    public static void main(String[] args) {
        stands();
        standsNoMore();
        wrongCalls();
        Due.end();
    }

    private static PatchbayScript withCapitals() {
        PatchbayScript script = new PatchbayScript();
        Due.line(script, "abcde");
        Due.show(script, 1, 0, "ABCDE");
        Due.is("learn", script.learn(1), 6);
        return script;
    }

    private static void stands() {
        PatchbayScript script = withCapitals();
        Due.line(script, "fg");
        Due.is("a line without a standing task", Due.text(script, 1), "fg");
        Due.is("let it stand", script.stand(1, true), false);
        Due.is("lines that are there stay", Due.text(script, 1), "fg");
        Due.is("let it stand again", script.stand(1, true), true);
        Due.line(script, "hi");
        Due.is("a line that comes", Due.text(script, 2), "HI");
        Due.is("one run", script.runs(), 1);
        Due.line(script, "3");
        Due.is("a line on which it fails", Due.text(script, 3), "3");
        Due.is("its run", script.runs(), 2);
        Due.is("it does not ask", script.asked(), 0);
        Due.is("undo it", script.undo(0), false);
        Due.is("the line as it came", Due.text(script, 2), "hi");
        Due.is("let it stand no more", script.stand(1, false), true);
        Due.is("again", script.stand(1, false), false);
        Due.line(script, "jk");
        Due.is("a line after that", Due.text(script, 4), "jk");
        Due.is("no run", script.runs(), 2);
    }

    private static void standsNoMore() {
        PatchbayScript script = withCapitals();
        script.stand(1, true);
        Due.line(script, "12");
        Due.show(script, 1, 1, "21");
        Due.line(script, "lm");
        Due.is("it goes on by what it has learnt", Due.text(script, 2), "LM");
        script.pin(1, 0, PatchbayScript.EACH, 2, 0, 0);
        Due.is("learn nothing", script.learn(1), PatchbayScript.NONE);
        Due.is("a line that comes now", Due.line(script, "no"), 3);
        Due.is("stays", Due.text(script, 3), "no");
        Due.is("it does not stand any more", script.stand(1, false), false);
        Due.failsState("nor can it", () -> script.stand(1, true) ? 1 : 0);
        script.pin(1, 0, PatchbayScript.NONE, 0, 0, 0);
        Due.is("learn something", script.learn(1), 16);
        Due.is("it does not stand by itself", script.stand(1, true), false);
        Due.is("learn again", script.learn(1), 16);
        Due.is("it goes on standing", script.stand(1, true), true);
    }

    private static void wrongCalls() {
        PatchbayScript script = new PatchbayScript();
        Due.failsIndex("stand(-1, true)", () -> script.stand(-1, true) ? 1 : 0);
        Due.failsIndex("stand(3, false)", () -> script.stand(3, false) ? 1 : 0);
        Due.failsState("stand(0, true) of nothing", () -> script.stand(0, true) ? 1 : 0);
        Due.is("stand(0, false) of nothing", script.stand(0, false), false);
        Due.line(script, "a");
        Due.show(script, 0, 0, "A");
        Due.failsState("stand(0, true) of what is shown", () -> script.stand(0, true) ? 1 : 0);
        Due.line(script, "b");
        Due.is("it did not stand", Due.text(script, 1), "b");
        Due.is("nor is there a run", script.runs(), 0);
    }
}
