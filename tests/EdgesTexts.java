/** Boundaries of the terms: texts and their lengths, the signs and their classes, runs. */
public final class EdgesTexts {
    private static final String TEXTS = "Texts, runs, spots";
    private static final String FULL = "aaaaaaaaaaaaaaaaaaaa";
    private static final int NO = PatchbayScript.NONE;

    public static void main(String[] args) {
        fullDraft();
        fullShown();
        fullByRun();
        signs();
        neighbours();
        classes();
        runsTouch();
        runsAtTheEnds();
        runsOfOneSignAndOfTwenty();
        Due.end();
    }

    private static void fullDraft() {
        Due.sentence(TEXTS, "A text has up to 20 signs");
        PatchbayScript script = new PatchbayScript();
        Due.type(script, FULL);
        Due.failsState("a sign 21", () -> script.type('a'));
        script.line();
        Due.is("a line of 20 signs", Due.text(script, 0), FULL);
        script.line();
        Due.is("a line of no signs", Due.text(script, 1), "");
    }

    private static void fullShown() {
        Due.sentence(TEXTS, "A text has up to 20 signs");
        PatchbayScript script = new PatchbayScript();
        script.line();
        Due.is("20 signs are shown", Due.show(script, 0, 0, FULL), 1);
        Due.is("the line then", Due.text(script, 0), FULL);
    }

    private static void fullByRun() {
        Due.sentence("Atoms, programs", "it fails if one of them does, or if this has more than 20 signs");
        PatchbayScript script = Stories.learnt("bcdef", "bcdefx", "abcdefghijklmnopqrs", "abcdefghijklmnopqrst");
        Due.is("what is learnt puts x behind", script.learn(0), 11);
        Due.is("a run on 19 and 20 letters", script.run(0, 1, 2, PatchbayScript.SKIP), 1);
        Due.is("20 signs are made", Due.text(script, 1), "abcdefghijklmnopqrsx");
        Due.is("21 signs are not", Due.text(script, 2), "abcdefghijklmnopqrst");
    }

    private static void signs() {
        Due.sentence(TEXTS, "\"a\" to \"z\", \"A\" to \"Z\", \"0\" to \"9\", a blank, and the marks \",\" \".\" \"-\" \"/\"");
        String ends = "azAZ09 ,.-/";
        PatchbayScript script = new PatchbayScript();
        for (int i = 0; i < ends.length(); i++) {
            Due.is("type of '" + ends.charAt(i) + "'", script.type(ends.charAt(i)), i + 1);
        }
        script.line();
        Due.is("the line", Due.text(script, 0), ends);
    }

    private static void neighbours() {
        Due.sentence(TEXTS, "\"a\" to \"z\", \"A\" to \"Z\", \"0\" to \"9\", a blank, and the marks \",\" \".\" \"-\" \"/\"");
        PatchbayScript script = new PatchbayScript();
        char[] others = {'`', '{', '@', '[', ':', '+', '!', '?', 31, 0, 127, 128, 160, 255, 'a' + 256, 65535};
        for (char other : others) {
            Due.failsArgument("type of the code " + (int) other, () -> script.type(other));
        }
    }

    private static void classes() {
        Due.sentence(TEXTS, "There are four classes of signs: 0 digits, 1 letters, 2 capitals, 3 all but blanks.");
        classesOf("0123456789", "0  0");
        classesOf("abcdefghijklmnopqrstuvwxyz", " 0 0");
        classesOf("ABCDEFGHIJKLMNOPQRSTUVWXYZ", " 000");
        classesOf(",.-/", "   0");
        classesOf(" ", "    ");
    }

    /** By class: "0" where a sign is of it, as its run begins at the place 0, and " " where it is not. */
    private static void classesOf(String signs, String due) {
        for (char sign : signs.toCharArray()) {
            PatchbayScript script = new PatchbayScript();
            script.type(sign);
            script.line();
            for (int kind = 0; kind < 4; kind++) {
                Due.is("the first run of the class " + kind + " of '" + sign + "'", script.placeOf(0, 6 + 6 * kind),
                        due.charAt(kind) == '0' ? 0 : NO);
            }
        }
    }

    private static void spots(PatchbayScript script, int line, int first, int... places) {
        String text = Due.text(script, line);
        for (int i = 0; i < places.length; i++) {
            Due.is("the spot " + (first + i) + " of '" + text + "'", script.placeOf(line, first + i), places[i]);
        }
    }

    private static void runsTouch() {
        Due.sentence(TEXTS, "A run of a class is a greatest row of signs of it, next to one another.");
        PatchbayScript script = new PatchbayScript();
        Due.line(script, "aZ09Ab");
        spots(script, 0, 6, 2, NO, 2, 4, NO, 4);
        spots(script, 0, 12, 0, 4, 4, 2, 6, 6);
        spots(script, 0, 18, 1, 4, 4, 2, 5, 5);
        spots(script, 0, 24, 0, NO, 0, 6, NO, 6);
    }

    private static void runsAtTheEnds() {
        Due.sentence(TEXTS, "A run of a class is a greatest row of signs of it, next to one another.");
        PatchbayScript script = new PatchbayScript();
        Due.line(script, "12 ab CD ef 345 -. 9");
        spots(script, 0, 6, 0, 12, 19, 2, 15, 20);
        spots(script, 0, 12, 3, 6, 9, 5, 8, 11);
        spots(script, 0, 18, 6, NO, 6, 8, NO, 8);
        spots(script, 0, 24, 0, 3, 19, 2, 5, 20);
    }

    private static void runsOfOneSignAndOfTwenty() {
        Due.sentence(TEXTS, "A run of a class is a greatest row of signs of it, next to one another.");
        PatchbayScript script = new PatchbayScript();
        Due.line(script, "A");
        Due.line(script, FULL);
        spots(script, 0, 18, 0, NO, 0, 1, NO, 1);
        spots(script, 1, 12, 0, NO, 0, 20, NO, 20);
        spots(script, 1, 24, 0, NO, 0, 20, NO, 20);
    }
}
