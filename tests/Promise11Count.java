/** Promise 11: count. */
public final class Promise11Count {
    public static void main(String[] args) {
        PatchbayScript script = new PatchbayScript();
        Due.failsIndex("count(-1)", () -> script.count(-1));
        Due.failsIndex("count(3)", () -> script.count(3));
        Due.is("count without examples", script.count(0), 0);
        script.line();
        Due.line(script, "x");
        script.line();
        script.line();
        Due.show(script, 0, 0, "a");
        Due.is("one program makes a sign of nothing", script.count(0), 1);
        Due.is("other tasks have none", script.count(1), 0);
        Due.show(script, 1, 2, "ab");
        Due.is("two make two signs", script.count(1), 2);
        Due.show(script, 2, 3, "abc");
        Due.is("four make three signs", script.count(2), 4);
        Due.is("count is not learnt", script.condition(2), PatchbayScript.NONE);
        Due.is("nor an atom", script.atomAt(2, false, 0, 0), PatchbayScript.NONE);
        Due.show(script, 0, 1, "x");
        Due.is("none makes both: of the texts as they were, not as they are", script.count(0), 0);
        many();
        asItIsNow();
        withAPin();
        Due.end();
    }

    private static void many() {
        PatchbayScript script = new PatchbayScript();
        script.line();
        Due.show(script, 0, 0, "abcd");
        Due.is("eight make four signs: five of them count", script.count(0), 5);
        script.line();
        Due.show(script, 1, 1, "01234567890123456");
        Due.is("none makes 17 signs of nothing", script.count(1), 0);
        Due.line(script, "x");
        Due.show(script, 2, 2, "x");
        Due.is("five of many", script.count(2), 5);
    }

    private static void asItIsNow() {
        PatchbayScript script = new PatchbayScript();
        script.line();
        script.line();
        Due.show(script, 0, 0, "ab");
        Due.is("learn", script.learn(0), 10);
        Due.is("refuse", script.refuse(0, 1), 1);
        Due.is("those that are not fit count too", script.count(0), 2);
        script.pin(0, 1, PatchbayScript.EACH, 0, 0, 0);
        Due.is("those without the pinned atom do not", script.count(0), 1);
        script.pin(0, 0, PatchbayScript.EACH, 0, 0, 0);
        Due.is("none is left", script.count(0), 0);
        script.pin(0, 0, PatchbayScript.NONE, 0, 0, 0);
        script.pin(0, 1, PatchbayScript.NONE, 0, 0, 0);
        Due.is("all are back", script.count(0), 2);
        Due.show(script, 0, 1, "ab");
        Due.is("and are of two examples", script.count(0), 2);
        script.pin(0, 0, PatchbayScript.EACH, 0, 0, 0);
        Due.is("what is learnt does not matter", script.count(0), 0);
    }

    private static void withAPin() {
        PatchbayScript script = new PatchbayScript();
        String[] texts = {"0", "bcda", "cdab"};
        for (int line = 0; line < 3; line++) {
            Due.line(script, texts[line]);
            Due.show(script, 2, line, "abcd");
        }
        script.type('a');
        script.pin(2, 0, PatchbayScript.CONST, 0, 0, 0);
        Due.is("four begin with the pinned sign", script.count(2), 4);
    }
}
