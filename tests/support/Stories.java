/** Beginnings that tests share: calls that bring a new object to where a sentence of the document matters. */
final class Stories {
    private Stories() {
    }

    /**
     * Something of all that an object can hold, so that nothing can change unseen: three lines, "AB", "C." and "x"
     * by now; the task 0 has learnt to put letters in capitals, is refused to make "CD" of "CD", and stands; 1 has an
     * example and a pin; 2 has learnt to put "x"; of two runs the second one is undone, and a line is asked; the
     * draft is "xy".
     */
    static void rich(PatchbayScript script) {
        withDraft(script, "xy");
    }

    /** The same with another draft. */
    static void withDraft(PatchbayScript script, String draft) {
        Due.line(script, "ab 1");
        Due.line(script, "cd");
        Due.line(script, "2");
        Due.show(script, 0, 0, "AB");
        script.learn(0);
        script.run(0, 0, 2, PatchbayScript.ASK);
        script.run(0, 1, 1, PatchbayScript.SKIP);
        script.undo(1);
        script.refuse(0, 1);
        script.stand(0, true);
        Due.show(script, 1, 1, "C.");
        script.pin(1, 2, PatchbayScript.EACH, 1, 0, 2);
        Due.show(script, 2, 2, "x");
        script.learn(2);
        Due.type(script, draft);
    }

    /** The same with eight lines. */
    static void eightLines(PatchbayScript script) {
        rich(script);
        script.stand(0, false);
        for (int line = 3; line < 8; line++) {
            Due.line(script, "" + line);
        }
        script.stand(0, true);
        Due.type(script, "xy");
    }

    /** The same with so many runs. */
    static void withRuns(PatchbayScript script, int runs) {
        rich(script);
        for (int run = script.runs(); run < runs; run++) {
            script.run(2, 1, 1, PatchbayScript.SKIP);
        }
    }

    /** The task 0 has learnt to put letters in capitals; the lines are such an example and those told. */
    static PatchbayScript capitals(String... texts) {
        return learnt("abcde", "ABCDE", texts);
    }

    /** The task 0 has learnt of one example, on the line 0; further lines are those told. */
    static PatchbayScript learnt(String text, String shown, String... texts) {
        PatchbayScript script = new PatchbayScript();
        Due.line(script, text);
        Due.show(script, 0, 0, shown);
        script.learn(0);
        for (String more : texts) {
            Due.line(script, more);
        }
        return script;
    }

    /** The task 0 has learnt what one atom makes, pinned to be the first; further lines are those told. */
    static PatchbayScript pinned(int kind, int a, int b, int c, String text, String shown, String... texts) {
        PatchbayScript script = new PatchbayScript();
        Due.line(script, text);
        script.pin(0, 0, kind, a, b, c);
        Due.show(script, 0, 0, shown);
        script.learn(0);
        for (String more : texts) {
            Due.line(script, more);
        }
        return script;
    }
}
