/** Promise 7: show. */
public final class Promise07Show {
    public static void main(String[] args) {
        showsStep();
        fourExamples();
        wrongCalls();
        Due.end();
    }

    private static void showsStep() {
        PatchbayScript script = new PatchbayScript();
        Due.line(script, "ab cd");
        Due.is("show(0, 0)", Due.show(script, 0, 0, "cd ab"), 1);
        Due.is("the line then", Due.text(script, 0), "cd ab");
        Due.is("the draft then", script.type('c'), 1);
        script.type('d');
        Due.is("show(1, 0) on the same line", script.show(1, 0), 1);
        Due.is("the line then", Due.text(script, 0), "cd");
        Due.is("learn(1)", script.learn(1), 4);
        Due.is("of what the line was when it was shown", Due.atom(script, 1, false, 0), "1 12 15 0 4");
        script.learn(0);
        Due.line(script, "x yz");
        Due.is("the first task has its own", Due.preview(script, 0, 1), "yz x");
        Due.is("the second one too", Due.preview(script, 1, 1), "x");
    }

    private static void fourExamples() {
        PatchbayScript script = new PatchbayScript();
        for (int i = 0; i < 5; i++) {
            Due.line(script, "a" + i);
        }
        for (int i = 0; i < 4; i++) {
            Due.is("show on the line " + i, Due.show(script, 2, i, "" + i), i + 1);
        }
        Due.type(script, "4");
        Due.failsState("a fifth example", () -> script.show(2, 4));
        Due.is("the line stays", Due.text(script, 4), "a4");
        Due.is("the draft stays", script.type('x'), 2);
        Due.is("another task has room", script.show(0, 4), 1);
        Due.is("learn of four", script.learn(2), 4);
    }

    private static void wrongCalls() {
        PatchbayScript script = new PatchbayScript();
        Due.failsIndex("show without lines", () -> script.show(0, 0));
        Due.line(script, "a");
        Due.line(script, "b");
        Due.failsState("show of an empty draft", () -> script.show(0, 0));
        Due.failsIndex("show(-1, 0) of an empty draft", () -> script.show(-1, 0));
        Due.failsIndex("show(3, 0)", () -> script.show(3, 0));
        Due.failsIndex("show(0, -1)", () -> script.show(0, -1));
        Due.failsIndex("show(0, 2)", () -> script.show(0, 2));
        script.type('x');
        Due.failsIndex("show(3, 0) of a draft", () -> script.show(3, 0));
        Due.failsIndex("show(0, 2) of a draft", () -> script.show(0, 2));
        Due.is("show(0, 0)", script.show(0, 0), 1);
        script.type('y');
        Due.failsState("a second example on the line", () -> script.show(0, 0));
        Due.is("the line stays", Due.text(script, 0), "x");
        Due.is("the draft stays", script.type('z'), 2);
        Due.is("on another line", script.show(0, 1), 2);
        Due.is("what was shown there", Due.text(script, 1), "yz");
    }
}
