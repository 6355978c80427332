/** Boundaries of the terms: what atoms and programs make, where they fail, and what they weigh. */
public final class EdgesAtoms {
    private static final String ATOMS = "Atoms, programs";
    private static final int NONE = PatchbayScript.NONE;
    private static final int CONST = PatchbayScript.CONST;
    private static final int CUT = PatchbayScript.CUT;
    private static final int EACH = PatchbayScript.EACH;

    public static void main(String[] args) {
        consts();
        longestConst();
        cutsOfNoSpot();
        cutsThatAreNotLess();
        wholeCuts();
        ways();
        wayOfTheFirstSign();
        weightsOfWays();
        eaches();
        eachesOfOneRun();
        eachesOfNoRun();
        mostRuns();
        weightsOfEaches();
        mostAtoms();
        oneAtomFails();
        mostSigns();
        weightsOfPrograms();
        Due.end();
    }

    /** What is learnt of an empty line and this text: CONSTs alone make something of it. */
    private static void isLearntOfNothing(String shown, int weight) {
        PatchbayScript script = new PatchbayScript();
        script.line();
        Due.show(script, 0, 0, shown);
        Due.is("learn of '' to '" + shown + "'", script.learn(0), weight);
    }

    private static void consts() {
        Due.sentence(ATOMS, "CONST, of 1 to 4 signs: these; its weight is 4, and 3 for each sign.");
        isLearntOfNothing("-", 7);
        isLearntOfNothing("ab", 10);
        isLearntOfNothing("ab ", 13);
        isLearntOfNothing("aB,1", 16);
        isLearntOfNothing("aB,1.", 23);
        isLearntOfNothing("aB,1.1,B", 32);
        isLearntOfNothing("aB,1.1,Ba", 39);
    }

    private static void longestConst() {
        Due.sentence(ATOMS, "CONST, of 1 to 4 signs: these; its weight is 4, and 3 for each sign.");
        PatchbayScript script = new PatchbayScript();
        Due.failsState("a CONST of no signs", () -> script.pin(0, 0, CONST, 0, 0, 0));
        script.type('a');
        Due.is("a CONST of one sign", script.pin(0, 0, CONST, 0, 0, 0), 1);
        Due.type(script, "abcd");
        Due.is("a CONST of four signs", script.pin(0, 1, CONST, 0, 0, 0), 2);
        Due.type(script, "abcde");
        Due.failsState("a CONST of five signs", () -> script.pin(0, 2, CONST, 0, 0, 0));
    }

    private static void makes(PatchbayScript script, String... due) {
        for (int i = 0; i < due.length; i++) {
            Due.is("what comes of '" + Due.text(script, i + 1) + "'", Due.preview(script, 0, i + 1), due[i]);
        }
    }

    private static void cutsOfNoSpot() {
        Due.sentence(ATOMS, "it fails if one of them tells none, or the first one is not less");
        makes(Stories.pinned(CUT, 2, 3, 0, "abcd", "cd", "abc", "ab", "a", ""), "c", "?", "?", "?");
        makes(Stories.pinned(CUT, 0, 5, 0, "abcd", "ab", "abc", "ab", "a", ""), "a", "?", "?", "?");
        makes(Stories.pinned(CUT, 13, 3, 0, "ab-cd", "cd", "e-f", "e-", "", "-1"), "f", "?", "?", "?");
        makes(Stories.pinned(CUT, 0, 16, 0, "ab-cd", "ab-cd", "e-f", "e-", "", "-1"), "e-f", "?", "?", "?");
        makes(Stories.pinned(CUT, 6, 29, 0, "a1b2", "1b2", "3", "b", "", "4 "), "3", "?", "?", "4");
    }

    private static void cutsThatAreNotLess() {
        Due.sentence(ATOMS, "it fails if one of them tells none, or the first one is not less");
        makes(Stories.pinned(CUT, 1, 4, 0, "abcde", "bcd", "abcd", "abc", "ab", "a"), "bc", "b", "?", "?");
        makes(Stories.pinned(CUT, 2, 5, 0, "abcdef", "cd", "abcde", "abcd", "abc", "ab"), "c", "?", "?", "?");
        makes(Stories.pinned(CUT, 9, 12, 0, "12-a", "-", "34,.b", "34b", "b34"), ",.", "?", "?");
    }

    private static void wholeCuts() {
        Due.sentence(ATOMS, "CUT, of two spots and a way: the signs of the text from the first spot up to the second one");
        makes(Stories.pinned(CUT, 0, 3, 0, "ab", "ab", "-", "abcdefghij0123456789", " a "), "-", "abcdefghij0123456789",
                " a ");
        makes(Stories.pinned(CUT, 4, 3, 0, "ab", "b", "a", "abcdefghij0123456789"), "a", "9");
        makes(Stories.pinned(CUT, 0, 1, 0, "ab", "a", "a", "0123456789abcdefghij"), "a", "0");
    }

    private static void ways() {
        Due.sentence(ATOMS, "The way: 0 as they are, 1 in capitals, 2 in small letters, 3 the first sign in capitals, all"
                + " others in small ones (signs that are no letters stay).");
        String all = "azAZ09 ,.-/";
        makes(Stories.pinned(CUT, 0, 3, 0, "aB", "aB", all), "azAZ09 ,.-/");
        makes(Stories.pinned(CUT, 0, 3, 1, "aB", "AB", all), "AZAZ09 ,.-/");
        makes(Stories.pinned(CUT, 0, 3, 2, "aB", "ab", all), "azaz09 ,.-/");
        makes(Stories.pinned(CUT, 0, 3, 3, "aB", "Ab", all), "Azaz09 ,.-/");
        makes(Stories.pinned(CUT, 0, 3, 1, "aB", "AB", "bcdefghijklmnopqrsty", "m"), "BCDEFGHIJKLMNOPQRSTY", "M");
        makes(Stories.pinned(CUT, 0, 3, 2, "aB", "ab", "BCDEFGHIJKLMNOPQRSTY", "M"), "bcdefghijklmnopqrsty", "m");
    }

    private static void wayOfTheFirstSign() {
        Due.sentence(ATOMS, "3 the first sign in capitals, all others in small ones (signs that are no letters stay)");
        makes(Stories.pinned(CUT, 0, 3, 3, "aB", "Ab", "z", "Z", "1aB", " Ab", "-", "zAZ a"), "Z", "Z", "1ab", " ab", "-",
                "Zaz a");
        makes(Stories.pinned(CUT, 1, 3, 3, "aaB", "Ab", "aaz", "AAZ", "a-AZ"), "Az", "Az", "-az");
    }

    private static void weightsOfWays() {
        Due.sentence(ATOMS, "Its weight is 2, and the weights of both spots, and 2 for a way that is not 0.");
        String[] shown = {"aB", "AB", "ab", "Ab"};
        int[] weights = {8, 10, 10, 10};
        for (int way = 0; way < 4; way++) {
            PatchbayScript script = Stories.pinned(CUT, 0, 3, way, "aB", shown[way]);
            Due.is("learn of the way " + way, script.learn(0), weights[way]);
            Due.is("the weight of its atom", script.atomAt(0, false, 0, 4), weights[way]);
        }
        Due.is("the lightest CUT", Stories.pinned(CUT, 12, 15, 0, "a", "a").learn(0), 4);
        Due.is("the heaviest CUT", Stories.pinned(CUT, 2, 5, 1, "abcdefg", "CDE").learn(0), 14);
    }

    private static String joined(String[] runs, int part, String mark) {
        StringBuilder text = new StringBuilder();
        for (String run : runs) {
            text.append(text.length() > 0 ? mark : "");
            text.append(part == 0 ? run : part == 1 ? run.substring(0, 1) : run.substring(run.length() - 1));
        }
        return text.toString();
    }

    private static void eaches() {
        Due.sentence(ATOMS, "EACH, of a class, a part and a mark: for each run of the class, one behind the other: all of"
                + " it (the part 0), its first sign (1), or its last one (2); between them nothing (the mark 0), a blank"
                + " (1), or \",\" \".\" \"-\" \"/\" (2 to 5).");
        String[][] example = {{"12", "3"}, {"ab", "Cd", "E"}, {"C", "E"}, {"ab12Cd--3", "E"}};
        String[][] other = {{"4", "56", "78"}, {"FgH", "i"}, {"F", "H"}, {"-4-FgH", "56", "78i/"}};
        String[] marks = {"", " ", ",", ".", "-", "/"};
        for (int each = 0; each < 72; each++) {
            int kind = each / 18;
            int part = each / 6 % 3;
            String mark = marks[each % 6];
            PatchbayScript script = Stories.pinned(EACH, kind, part, each % 6, "ab12Cd--3 E",
                    joined(example[kind], part, mark), " -4-FgH 56  78i/ ");
            Due.is("learn of EACH " + kind + " " + part + " " + each % 6, script.learn(0),
                    6 + (part == 0 ? 0 : 1) + (each % 6 == 0 ? 0 : 1));
            makes(script, joined(other[kind], part, mark));
        }
    }

    private static void eachesOfOneRun() {
        Due.sentence(ATOMS, "between them nothing (the mark 0), a blank (1), or \",\" \".\" \"-\" \"/\" (2 to 5)");
        for (int mark = 0; mark < 6; mark++) {
            makes(Stories.pinned(EACH, 0, 0, mark, "12", "12", "a34b", "5"), "34", "5");
            makes(Stories.pinned(EACH, 0, 1, mark, "12", "1", "a34b", "5"), "3", "5");
            makes(Stories.pinned(EACH, 0, 2, mark, "12", "2", "a34b", "5"), "4", "5");
        }
    }

    private static void eachesOfNoRun() {
        Due.sentence(ATOMS, "It fails without a run.");
        makes(Stories.pinned(EACH, 0, 0, 1, "1a2", "1 2", "3", "aA .", ""), "3", "?", "?");
        makes(Stories.pinned(EACH, 1, 1, 0, "ab1cd", "ac", "e", "12 .", ""), "e", "?", "?");
        makes(Stories.pinned(EACH, 2, 2, 0, "AbCd", "AC", "E", "ab 1-", ""), "E", "?", "?");
        makes(Stories.pinned(EACH, 3, 0, 0, "ab cd", "abcd", ".", "  ", ""), ".", "?", "?");
    }

    private static void mostRuns() {
        Due.sentence(ATOMS, "for each run of the class, one behind the other");
        makes(Stories.pinned(EACH, 0, 0, 5, "1a2", "1/2", "1a2b3c4d5e6f7g8h9i0j", "a1b2c3d4e5f6g7h8i9j0"),
                "1/2/3/4/5/6/7/8/9/0", "1/2/3/4/5/6/7/8/9/0");
        makes(Stories.pinned(EACH, 3, 0, 0, "a b", "ab", "abcdefghij0123456789"), "abcdefghij0123456789");
    }

    private static void weightsOfEaches() {
        Due.sentence(ATOMS, "Its weight is 6, and 1 for a part that is not 0, and 1 for a mark that is not 0.");
        Due.is("no part, no mark", Stories.pinned(EACH, 1, 0, 0, "ab cd", "abcd").learn(0), 6);
        Due.is("a part", Stories.pinned(EACH, 1, 1, 0, "ab cd", "ac").learn(0), 7);
        Due.is("the other part", Stories.pinned(EACH, 1, 2, 0, "ab cd", "bd").learn(0), 7);
        Due.is("the first mark", Stories.pinned(EACH, 1, 0, 1, "ab-cd", "ab cd").learn(0), 7);
        Due.is("the last mark", Stories.pinned(EACH, 1, 0, 5, "ab cd", "ab/cd").learn(0), 7);
        Due.is("a part and a mark", Stories.pinned(EACH, 1, 2, 5, "ab cd", "b/d").learn(0), 8);
    }

    private static void mostAtoms() {
        Due.sentence(ATOMS, "A program is a row of 1 to 4 atoms; it makes what they make, one behind the other");
        isLearntOfNothing("abcdefghijklmnop", 64);
        isLearntOfNothing("abcdefghijklmnopq", NONE);
        PatchbayScript script = new PatchbayScript();
        Due.line(script, "abcd");
        Due.show(script, 0, 0, "abcdabcdabcdabcd");
        Due.is("four atoms", script.learn(0), 16);
        Due.is("the fourth one", Due.atom(script, 0, false, 3), "1 12 15 0 4");
        Due.is("no fifth one", script.atomAt(0, false, 4, 0), NONE);
        Due.line(script, "");
        Due.show(script, 1, 1, "abcdabcdabcdabcdabcd");
        Due.is("five of CONSTs would be needed", script.learn(1), NONE);
    }

    /** The second letters, x, the digits, the first capitals: all four atoms are pinned. */
    private static void oneAtomFails() {
        Due.sentence(ATOMS, "it fails if one of them does, or if this has more than 20 signs");
        PatchbayScript script = new PatchbayScript();
        Due.line(script, "ab cd 12 E");
        script.pin(0, 0, CUT, 13, 16, 0);
        script.type('x');
        script.pin(0, 1, CONST, 0, 0, 0);
        script.pin(0, 2, EACH, 0, 0, 0);
        script.pin(0, 3, CUT, 18, 21, 0);
        Due.show(script, 0, 0, "cdx12E");
        Due.is("learn", script.learn(0), 23);
        String[] texts = {"fg hI 4", "J 5", "fg hI", "fg hi 6", "", "7 K l-8 M"};
        for (String text : texts) {
            Due.line(script, text);
        }
        makes(script, "hIx4I", "?", "?", "?", "?", "lx78K");
    }

    private static void mostSigns() {
        Due.sentence(ATOMS, "it fails if one of them does, or if this has more than 20 signs");
        String nineteen = "abcdefghijklmnopqrs";
        makes(Stories.learnt("bcdef", "bcdefx", nineteen, nineteen + "t"), nineteen + "x", "?");
        makes(Stories.learnt("bcdef", "xbcdef", nineteen, nineteen + "t"), "x" + nineteen, "?");
        makes(Stories.learnt("abcde", "abcdeabcde", "bcdefghijk", "bcdefghijkl"), "bcdefghijkbcdefghijk", "?");
        makes(digitsWithMarks("xy", 17, "11a2b3c4d5e6f7g8h9", "1a2b3c4d5e6f7g8h9i0"), "xy11/2/3/4/5/6/7/8/9", "?");
        makes(digitsWithMarks("xyz", 20, "1a2b3c4d5e6f7g8h9i", "1a2b3c4d5e6f7g8h9i0"), "xyz1/2/3/4/5/6/7/8/9", "?");
    }

    /** A CONST, and all digits with "/" between them, are learnt; the lines behind the example are those told. */
    private static PatchbayScript digitsWithMarks(String ahead, int weight, String... texts) {
        PatchbayScript script = new PatchbayScript();
        Due.line(script, "1a2");
        Due.type(script, ahead);
        script.pin(0, 0, CONST, 0, 0, 0);
        script.pin(0, 1, EACH, 0, 0, 5);
        Due.show(script, 0, 0, ahead + "1/2");
        Due.is("learn", script.learn(0), weight);
        for (String text : texts) {
            Due.line(script, text);
        }
        return script;
    }

    private static void weightsOfPrograms() {
        Due.sentence(ATOMS, "Its weight is that of its atoms.");
        PatchbayScript script = Stories.learnt("Ada Byron", "Byron A.");
        Due.is("learn", script.learn(0), 17);
        Due.is("its first atom", script.atomAt(0, false, 0, 4), 4);
        Due.is("its last atom", script.atomAt(0, false, 1, 4), 13);
        Due.is("the least weight", Stories.learnt("a", "a").learn(0), 4);
        isLearntOfNothing("abcdefghijklmnop", 64);
    }
}
