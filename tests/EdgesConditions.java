/** Boundaries of the terms: for which texts each condition holds, and which of several is taken. */
public final class EdgesConditions {
    private static final String ATOMS = "Atoms, programs";
    private static final String AT_LEAST = "0 to 11: the text has at least 1, 2, 3 runs of the class 0, then 1, 2, 3"
            + " (three each)";
    private static final String BEGINS = "12 to 15: it begins with a sign of the class 0 to 3";
    private static final String HAS = "16 to 20: it has a blank, \",\" \".\" \"-\" \"/\"";
    private static final int NONE = PatchbayScript.NONE;

    public static void main(String[] args) {
        runsOfDigits();
        runsOfLetters();
        runsOfCapitals();
        runsOfAllButBlanks();
        beginnings();
        marks();
        leastWeight();
        lowestOfTheSame();
        asksTheExampleAsItWas();
        makesWhatOneOfBothMakes();
        failsThoughTheOtherDoesNot();
        noneIsLearnt();
        Due.end();
    }

    /** The first text makes x and the second one y; then those for which the condition holds, and others. */
    private static void parts(int condition, String held, String other, String[] hold, String[] others) {
        PatchbayScript script = new PatchbayScript();
        Due.line(script, held);
        Due.line(script, other);
        Due.show(script, 0, 0, "x");
        Due.show(script, 0, 1, "y");
        String told = "'" + held + "' and '" + other + "'";
        Due.is("learn of " + told, script.learn(0), 14);
        Due.is("the condition of " + told, script.condition(0), condition);
        Due.is("the first program of " + told, Due.atom(script, 0, false, 0), "0 120 0 0 7");
        Due.is("the second program of " + told, Due.atom(script, 0, true, 0), "0 121 0 0 7");
        for (String text : hold) {
            Due.is("where " + condition + " holds, '" + text + "'", Due.preview(script, 0, Due.line(script, text)), "x");
        }
        for (String text : others) {
            Due.is("where " + condition + " does not, '" + text + "'", Due.preview(script, 0, Due.line(script, text)), "y");
        }
    }

    private static String[] texts(String... texts) {
        return texts;
    }

    private static void runsOfDigits() {
        Due.sentence(ATOMS, AT_LEAST);
        parts(0, "1a", "aa", texts("7", "1 2", "1 2 3 4"), texts("", "aA -.", "b"));
        parts(1, "1a2", "1a", texts("1 2", "1 2 3", "1,2,3,4"), texts("", "12", "a 3 b"));
        parts(2, "1a2a3", "1a2a", texts("1 2 3", "1,2,3,4", "0-0-0"), texts("", "1.2", "123"));
    }

    private static void runsOfLetters() {
        Due.sentence(ATOMS, AT_LEAST);
        parts(3, "a", "-", texts("Z", "1b", "a b c"), texts("", "12 -", "."));
        parts(4, "a-a", "a-", texts("a b", "A1b1c"), texts("", "aB", "1", "aBc -"));
        parts(5, "a-a-a", "a-a-", texts("a b c", "a b c d", "1a1B1c1"), texts("", "a b", "abc"));
    }

    private static void runsOfCapitals() {
        Due.sentence(ATOMS, AT_LEAST);
        parts(6, "aB", "ab", texts("B", "aBC", "A B C"), texts("", "ab c", "1-"));
        parts(7, "aBaB", "aBab", texts("A B", "AbC", "A1B1C"), texts("", "AB", "a b"));
        parts(8, "aBaBaB", "aBaBab", texts("A B C", "A B C D", "AbCdE"), texts("", "A B", "ABC"));
    }

    private static void runsOfAllButBlanks() {
        Due.sentence(ATOMS, AT_LEAST);
        parts(9, "-", " ", texts(".", "a1", "1 2"), texts("", "   "));
        parts(10, "- -", "-", texts("a b", "1 2 3"), texts("", "ab", " a,b "));
        parts(11, "- - -", "- -", texts("a b c", "a b c d", " 1  2 3 "), texts("", "a b", "a-b-c"));
    }

    private static void beginnings() {
        Due.sentence(ATOMS, BEGINS);
        parts(12, "1-a", "a-1", texts("0", "9 a"), texts("", "a1", " 1", "-1"));
        parts(13, "a-1", "-a1", texts("z", "A1"), texts("", "1a", " a", "-a"));
        parts(14, "A-a", "a-A", texts("Z", "BB c"), texts("", "bA", " A", "1A"));
        parts(15, "-a ", " -a", texts("1", "b", "B", "/ "), texts("", " a"));
    }

    private static void marks() {
        Due.sentence(ATOMS, HAS);
        parts(16, "- ", "-.", texts(" ", "ab c", " a"), texts("", "ab", "a.b"));
        parts(17, "-,", "--", texts(",", "a,b", "1 2,"), texts("", "a.b", " "));
        parts(18, "-.", "--", texts(".", "a.b", ".b"), texts("", "a,b", " "));
        parts(19, ".-", "..", texts("-", "a-b", "1 2-"), texts("", "a.b", " "));
        parts(20, "./", "..", texts("/", "a/b", "/b"), texts("", "a-b", " "));
    }

    /** By the digits the others are too unlike; by two runs of all but blanks each part takes its first run. */
    private static void leastWeight() {
        Due.sentence(ATOMS, "Of these conditions the one with the least weight of both programs together is taken, of"
                + " several the lowest.");
        PatchbayScript script = new PatchbayScript();
        String[][] shown = {{"1 ab", "1"}, {"q cd", "q"}, {"y,q", "q"}};
        for (int line = 0; line < 3; line++) {
            Due.line(script, shown[line][0]);
            Due.show(script, 0, line, shown[line][1]);
        }
        Due.is("learn", script.learn(0), 8);
        Due.is("not the condition 0, which weighs 11", script.condition(0), 10);
    }

    /** All conditions that tell a text from the empty one weigh 14. */
    private static void lowestOfTheSame() {
        Due.sentence(ATOMS, "Of these conditions the one with the least weight of both programs together is taken, of"
                + " several the lowest.");
        parts(0, "1A ,.-/", "", texts("1"), texts("A"));
        parts(3, "A ,.-/", "", texts("a"), texts(" ,.-/"));
        parts(9, ",.-/ ", "", texts("-"), texts(" "));
        parts(16, " ", "", texts("a b"), texts("ab"));
        parts(17, ",./", "-", texts(","), texts("./"));
    }

    private static void asksTheExampleAsItWas() {
        Due.sentence(ATOMS, "A condition parts the examples into those for which it holds, and others");
        PatchbayScript script = new PatchbayScript();
        Due.line(script, "1");
        Due.line(script, "-");
        Due.show(script, 0, 0, "a");
        Due.show(script, 0, 1, "2");
        Due.is("learn", script.learn(0), 14);
        Due.is("the condition, of what the lines were", script.condition(0), 0);
        Due.is("a where there was a digit", Due.atom(script, 0, false, 0), "0 97 0 0 7");
        Due.is("2 where there was none", Due.atom(script, 0, true, 0), "0 50 0 0 7");
    }

    private static void makesWhatOneOfBothMakes() {
        Due.sentence(ATOMS, "Then the task has learnt both; of a text for which the condition holds it makes what the first"
                + " one makes, of others what the second one does.");
        PatchbayScript script = new PatchbayScript();
        Due.line(script, "a1");
        Due.line(script, "b-");
        Due.show(script, 0, 0, "a");
        Due.show(script, 0, 1, "-b");
        Due.is("learn", script.learn(0), 12);
        Due.is("the condition", script.condition(0), 0);
        String[] texts = {"c2", "c.", "3", "4-", "-", "d-e5"};
        String[] made = {"c", ".c", "?", "?", "?", "d-e"};
        for (int i = 0; i < texts.length; i++) {
            Due.is("of '" + texts[i] + "'", Due.preview(script, 0, Due.line(script, texts[i])), made[i]);
        }
    }

    /** Letters ahead of digits, and x where there are no digits; x where there are, and letters where not. */
    private static void failsThoughTheOtherDoesNot() {
        Due.sentence(ATOMS, "Then the task has learnt both; of a text for which the condition holds it makes what the first"
                + " one makes, of others what the second one does.");
        PatchbayScript script = new PatchbayScript();
        String[] texts = {"B1", "-", "1", "a", "2", "."};
        for (String text : texts) {
            Due.line(script, text);
        }
        Due.show(script, 0, 0, "B");
        Due.show(script, 0, 1, "x");
        Due.is("learn", script.learn(0), 11);
        Due.is("the condition", script.condition(0), 0);
        Due.is("the first one fails", Due.preview(script, 0, 4), "?");
        Due.is("the second one does not", Due.preview(script, 0, 5), "x");
        Due.show(script, 1, 2, "x");
        Due.show(script, 1, 3, "a");
        Due.is("learn", script.learn(1), 11);
        Due.is("the condition", script.condition(1), 0);
        Due.is("the first one does not fail", Due.preview(script, 1, 4), "x");
        Due.is("the second one does", Due.preview(script, 1, 5), "?");
        Due.is("a run skips it", script.run(1, 4, 5, PatchbayScript.SKIP), 1);
        Due.is("and leaves the line", Due.text(script, 5), ".");
    }

    private static void noneIsLearnt() {
        Due.sentence(ATOMS, "If there is none, it has learnt nothing.");
        PatchbayScript script = new PatchbayScript();
        Due.line(script, "ab");
        Due.line(script, "cd");
        Due.show(script, 0, 0, "x");
        Due.is("learn of one", script.learn(0), 7);
        Due.show(script, 0, 1, "y");
        Due.is("learn of two", script.learn(0), NONE);
        Due.is("no condition", script.condition(0), NONE);
        Due.is("no program", script.atomAt(0, false, 0, 0), NONE);
        Due.is("no second program", script.atomAt(0, true, 0, 0), NONE);
        Due.is("nothing comes of a line", Due.preview(script, 0, 0), "?");
    }
}
