/** Promise 10: learn; and with it what the terms say of programs, of their order, and of conditions. */
public final class Promise10Learn {
    private static final int NONE = PatchbayScript.NONE;

    public static void main(String[] args) {
        wrongCalls();
        weightsOfAtoms();
        ordersOfAtoms();
        ways();
        eaches();
        parts();
        nothingAndAnew();
        Due.end();
    }

    private static void wrongCalls() {
        PatchbayScript script = new PatchbayScript();
        Due.failsIndex("learn(-1)", () -> script.learn(-1));
        Due.failsIndex("learn(3)", () -> script.learn(3));
        Due.failsState("learn without examples", () -> script.learn(0));
        Due.line(script, "a");
        Due.show(script, 0, 0, "b");
        Due.failsState("learn of another task", () -> script.learn(1));
        Due.is("learn", script.learn(0), 7);
    }

    /** What is learnt of one example: its weight, and its first atom. */
    private static void one(String text, String shown, int weight, String atom) {
        PatchbayScript script = new PatchbayScript();
        Due.line(script, text);
        Due.show(script, 0, 0, shown);
        Due.is("learn of '" + text + "' to '" + shown + "'", script.learn(0), weight);
        Due.is("its first atom", weight == NONE ? "" : Due.atom(script, 0, false, 0), atom);
        Due.is("it is not parted", script.condition(0), NONE);
    }

    private static void weightsOfAtoms() {
        one("", "a", 7, "0 97 0 0 7");
        one("", "ab", 10, "0 97 98 0 10");
        one("", "abc", 13, "0 97 98 99 13");
        one("", "abcd", 16, "0 97 98 99 16");
        one("", "abcde", 23, "0 97 0 0 7");
        one("", "0123456789012345", 64, "0 48 49 50 16");
        one("", "01234567890123456", NONE, "");
        one("x-y", "x-y", 4, "1 12 17 0 4");
        one("-x-", "-x-", 4, "1 24 27 0 4");
        one("a b c", "b", 6, "1 13 16 0 6");
        one("ab, c", "b,", 7, "1 1 27 0 7");
        one("qwerty", "wert", 10, "1 1 4 0 10");
    }

    private static void ordersOfAtoms() {
        one("x", "x", 4, "1 12 15 0 4");
        one("7", "7", 4, "1 6 9 0 4");
        one("", "aabaa", 23, "0 97 0 0 7");
        one("a-b", "b", 4, "1 14 17 0 4");
        one("a", "aa", 8, "1 12 15 0 4");
        one("Bo Li", "BoLi", 6, "2 1 0 0 6");
    }

    private static void ways() {
        one("ada k", "ADA", 6, "1 12 15 1 6");
        one("azza k", "AZZA", 6, "1 12 15 1 6");
        one("AZZA k", "azza", 6, "1 12 15 2 6");
        one("ADA k", "ada", 6, "1 12 15 2 6");
        one("aDA k", "Ada", 6, "1 12 15 3 6");
        one("1a, 2", "1A,", 6, "1 6 27 1 6");
        one(" -Z .", " -z .", 8, "1 0 29 2 8");
        one(" -Z. ", " -z. ", 10, "1 0 3 2 10");
    }

    private static void eaches() {
        one("ab cd ef", "abcdef", 6, "2 1 0 0 6");
        one("ab cd ef", "ace", 7, "2 1 1 0 7");
        one("ab cd ef", "bdf", 7, "2 1 2 0 7");
        one("ab cd ef", "ab-cd-ef", 7, "2 1 0 4 7");
        one("ab cd ef", "b/d/f", 8, "2 1 2 5 8");
        one("1a22b333", "1 22 333", 7, "2 0 0 1 7");
        one("a,b c.d", "a,b.c.d", 7, "2 3 0 3 7");
        one("aBcDEf", "B,DE", 7, "2 2 0 2 7");
    }

    private static void parted(String first, String firstShown, String second, String secondShown, int weight,
            int condition) {
        PatchbayScript script = new PatchbayScript();
        Due.line(script, first);
        Due.line(script, second);
        Due.show(script, 0, 0, firstShown);
        Due.show(script, 0, 1, secondShown);
        String told = "'" + first + "' and '" + second + "'";
        Due.is("learn of " + told, script.learn(0), weight);
        Due.is("the condition of " + told, script.condition(0), condition);
        if (weight == 14) {
            Due.is("of the first, where it holds, " + told, Due.atom(script, 0, false, 0), "0 120 0 0 7");
            Due.is("of the second one, where it does not, " + told, Due.atom(script, 0, true, 0), "0 121 0 0 7");
        }
    }

    private static void parts() {
        parted("7.11.26", "26", "a 12", "a", 8, 1);
        parted("ab", "x", "", "y", 14, 3);
        parted("1", "x", "a", "y", 14, 0);
        parted("a b", "x", "a", "y", 14, 4);
        parted("a b c", "x", "a b", "y", 14, 5);
        parted("aB", "x", "ab", "y", 14, 6);
        parted("aBaB", "x", "aBaa", "y", 14, 7);
        parted("aBaBaB", "x", "aBaBaa", "y", 14, 8);
        parted("-", "x", " ", "y", 14, 9);
        parted("- -", "x", "-", "y", 14, 10);
        parted("- - -", "x", "- -", "y", 14, 11);
        parted("1 a", "x", "a 1", "y", 14, 12);
        parted("1-a", "x", "a-1", "y", 14, 12);
        parted("a-1", "x", "-a1", "y", 14, 1 + 12);
        parted("A-a", "x", "a-A", "y", 14, 14);
        parted("-a ", "x", " -a", "y", 14, 15);
        parted("a b", "x", "a-b", "y", 14, 10);
        parted("- ", "x", "-.", "y", 14, 16);
        parted("-,", "x", "--", "y", 14, 17);
        parted("-.", "x", "--", "y", 14, 18);
        parted(".-", "x", "..", "y", 14, 19);
        parted("./", "x", "..", "y", 14, 20);
        parted("ab", "x", "cd", "y", NONE, NONE);
        parted("ab", "x", "ab", "y", NONE, NONE);
        parted("11 22", "qrstu", "", "v", 30, 0);
    }

    /** By the condition 0 it would be 11; of those with 8, 10 is the lowest condition. */
    private static void nothingAndAnew() {
        PatchbayScript script = new PatchbayScript();
        String[][] shown = {{"1 ab", "1"}, {"q cd", "q"}, {"y,q", "q"}, {"y,q", "zz"}};
        for (int i = 0; i < 4; i++) {
            Due.line(script, shown[i][0]);
        }
        for (int i = 0; i < 3; i++) {
            Due.show(script, 0, i, shown[i][1]);
        }
        Due.is("learn of three", script.learn(0), 8);
        Due.is("the least weight, not the lowest condition", script.condition(0), 10);
        Due.show(script, 0, 3, shown[3][1]);
        Due.is("what is learnt stays", script.condition(0), 10);
        Due.is("learn of a contradiction", script.learn(0), NONE);
        Due.is("nothing is learnt", script.condition(0), NONE);
        Due.is("no atom", script.atomAt(0, false, 0, 0), NONE);
        Due.is("no second atom", script.atomAt(0, true, 0, 0), NONE);
    }
}
