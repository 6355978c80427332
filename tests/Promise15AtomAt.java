/** Promise 15: atomAt. */
public final class Promise15AtomAt {
    private static final int NONE = PatchbayScript.NONE;
    private static final String NO_ATOM = "-1 -1 -1 -1 -1";

    public static void main(String[] args) {
        wrongCalls();
        kinds();
        parted();
        Due.end();
    }

    private static void wrongCalls() {
        PatchbayScript script = new PatchbayScript();
        Due.failsIndex("atomAt of the task -1", () -> script.atomAt(-1, false, 0, 0));
        Due.failsIndex("atomAt of the task 3", () -> script.atomAt(3, false, 0, 0));
        Due.failsIndex("atomAt(0, .., -1, 0)", () -> script.atomAt(0, false, -1, 0));
        Due.failsIndex("atomAt(0, .., -1, 5)", () -> script.atomAt(0, true, -1, 5));
        Due.failsArgument("atomAt(0, .., 0, 5)", () -> script.atomAt(0, false, 0, 5));
        Due.failsArgument("atomAt(0, .., 0, -1)", () -> script.atomAt(0, true, 0, -1));
        Due.failsArgument("atomAt(0, .., 9, 5)", () -> script.atomAt(0, false, 9, 5));
        Due.is("an atom of nothing", Due.atom(script, 0, false, 0), NO_ATOM);
        Due.is("an atom of the second of nothing", Due.atom(script, 0, true, 0), NO_ATOM);
        Due.is("an atom far behind", script.atomAt(0, false, Integer.MAX_VALUE, 0), NONE);
    }

    private static PatchbayScript learnt(String text, String shown) {
        PatchbayScript script = new PatchbayScript();
        Due.line(script, text);
        Due.show(script, 0, 0, shown);
        script.learn(0);
        return script;
    }

    private static void kinds() {
        PatchbayScript script = learnt("", "zY");
        Due.is("a CONST of two", Due.atom(script, 0, false, 0), "0 122 89 0 10");
        Due.is("no second atom", Due.atom(script, 0, false, 1), NO_ATOM);
        Due.is("no second program", Due.atom(script, 0, true, 0), NO_ATOM);
        Due.is("a CONST of one", Due.atom(learnt("", "/"), 0, false, 0), "0 47 0 0 7");
        Due.is("a CONST of three", Due.atom(learnt("", " ,9"), 0, false, 0), "0 32 44 57 13");
        Due.is("a CONST of four", Due.atom(learnt("", "abcd"), 0, false, 0), "0 97 98 99 16");
        Due.is("an EACH", Due.atom(learnt("ab cd ef", "b/d/f"), 0, false, 0), "2 1 2 5 8");
        Due.is("the first EACH", Due.atom(learnt("1 22 3", "1223"), 0, false, 0), "2 0 0 0 6");
        Due.is("the last CUT", Due.atom(learnt("-a ", "-a "), 0, false, 0), "1 24 3 0 6");
        Due.is("a CUT with a way", Due.atom(learnt("aDA k", "Ada"), 0, false, 0), "1 12 15 3 6");

        PatchbayScript row = learnt("Ada Byron", "Byron A.");
        Due.is("the first atom", Due.atom(row, 0, false, 0), "1 14 17 0 4");
        Due.is("the second atom", Due.atom(row, 0, false, 1), "0 32 65 46 13");
        Due.is("the third atom", Due.atom(row, 0, false, 2), NO_ATOM);
        Due.is("other tasks", Due.atom(row, 1, false, 0), NO_ATOM);
    }

    private static void parted() {
        PatchbayScript script = new PatchbayScript();
        Due.line(script, "7.11.26");
        Due.line(script, "abcde 12");
        Due.show(script, 1, 0, "26");
        Due.show(script, 1, 1, "abcde-");
        Due.is("learn", script.learn(1), 15);
        Due.is("where it holds", Due.atom(script, 1, false, 0), "1 8 11 0 4");
        Due.is("it has one atom", Due.atom(script, 1, false, 1), NO_ATOM);
        Due.is("where it does not", Due.atom(script, 1, true, 0), "1 12 15 0 4");
        Due.is("its second atom", Due.atom(script, 1, true, 1), "0 45 0 0 7");
        Due.is("its third atom", Due.atom(script, 1, true, 2), NO_ATOM);
        script.pin(1, 0, PatchbayScript.EACH, 2, 0, 0);
        Due.is("it stays until learning", Due.atom(script, 1, true, 1), "0 45 0 0 7");
        script.learn(1);
        Due.is("nothing is learnt", Due.atom(script, 1, true, 0), NO_ATOM);
        Due.is("of neither", Due.atom(script, 1, false, 0), NO_ATOM);
    }
}
