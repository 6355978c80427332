/** Boundaries of the terms: which of two programs that are all but alike comes first. */
public final class EdgesOrder {
    private static final String ATOMS = "Atoms, programs";
    private static final int NONE = PatchbayScript.NONE;

    public static void main(String[] args) {
        weightsFirst();
        fewerAtoms();
        kinds();
        constsByLength();
        cutsBySpots();
        cutsByWay();
        eachesByClass();
        eachesByPart();
        eachesByMark();
        firstAtomsThatAreUnlike();
        Due.end();
    }

    /** What is learnt of one example, or of several: its weight, and its atoms, each by its five numbers. */
    private static void first(String[][] examples, int weight, String... atoms) {
        PatchbayScript script = new PatchbayScript();
        for (int line = 0; line < examples.length; line++) {
            Due.line(script, examples[line][0]);
            Due.show(script, 0, line, examples[line][1]);
        }
        String told = "'" + examples[0][0] + "' to '" + examples[0][1] + "'";
        Due.is("learn of " + told, script.learn(0), weight);
        Due.is("condition of " + told, script.condition(0), NONE);
        for (int place = 0; place < atoms.length; place++) {
            Due.is("the atom " + place + " of " + told, Due.atom(script, 0, false, place), atoms[place]);
        }
        Due.is("behind the last atom of " + told, script.atomAt(0, false, atoms.length, 0), NONE);
    }

    private static void first(String text, String shown, int weight, String... atoms) {
        first(new String[][] {{text, shown}}, weight, atoms);
    }

    private static void weightsFirst() {
        Due.sentence(ATOMS, "Programs are in the order of their weights; of the same by how many atoms they have; of the"
                + " same by their first atoms that are unlike.");
        first("a", "aa", 8, "1 12 15 0 4", "1 12 15 0 4");
        first("-", "--", 8, "1 24 27 0 4", "1 24 27 0 4");
        first(" b a ", "ba", 6, "2 1 0 0 6");
    }

    private static void fewerAtoms() {
        Due.sentence(ATOMS, "of the same by how many atoms they have");
        first("A", "aA", 10, "0 97 65 0 10");
        first(" 1 ", "11  ", 16, "0 49 49 32 16");
        first("a-", "-aaa", 16, "0 45 97 97 16");
        first("a1a1", "aa11", 12, "2 1 0 0 6", "2 0 0 0 6");
        first(new String[][] {{"a1 A ", "a.AaAa"}, {"1a1A ", "a.AaA1a"}, {"a", "aaAa"}}, 21, "2 1 0 3 7", "0 97 65 0 10",
                "1 24 15 0 4");
    }

    private static void kinds() {
        Due.sentence(ATOMS, "Atoms are in an order: CONSTs ahead of CUTs ahead of EACHs");
        first("--", "-", 7, "0 45 0 0 7");
        first("1aa1", "a", 7, "0 97 0 0 7");
        first("aaa-a1", "aaaaa a", 14, "1 1 15 0 7", "2 1 0 1 7");
        first("-.", "-..", 11, "1 24 27 0 4", "0 46 0 0 7");
    }

    /** CONSTs of the same length stand at the same place of what was shown, and so they have the same signs. */
    private static void constsByLength() {
        Due.sentence(ATOMS, "CONSTs by their lengths, of the same by their first signs that are unlike, by their codes as"
                + " chars");
        first("", "abcde", 23, "0 97 0 0 7", "0 98 99 100 16");
        first("", "edcba", 23, "0 101 0 0 7", "0 100 99 98 16");
        first("", "abcdef", 26, "0 97 98 0 10", "0 99 100 101 16");
        first("", "abcdefg", 29, "0 97 98 99 13", "0 100 101 102 16");
        first("", "abcdefghi", 39, "0 97 0 0 7", "0 98 99 100 16", "0 102 103 104 16");
    }

    private static void cutsBySpots() {
        Due.sentence(ATOMS, "CUTs by the first spot, then the second one, then the way");
        first("x", "x", 4, "1 12 15 0 4");
        first("7", "7", 4, "1 6 9 0 4");
        first("A", "A", 4, "1 12 15 0 4");
        first("-", "-", 4, "1 24 27 0 4");
        first("1 ", " ", 6, "1 9 3 0 6");
        first(new String[][] {{"a b", "b"}, {"cd ef", "ef"}}, 4, "1 14 17 0 4");
        PatchbayScript script = Stories.learnt("ab", "ab", "c d", "e f");
        Due.is("from the first letters to the first ones", Due.atom(script, 0, false, 0), "1 12 15 0 4");
        script.refuse(0, 1);
        script.learn(0);
        Due.is("from the first letters to the last ones", Due.atom(script, 0, false, 0), "1 12 17 0 4");
        script.refuse(0, 1);
        script.learn(0);
        Due.is("from the last letters to the first ones", Due.atom(script, 0, false, 0), "1 14 15 0 4");
    }

    private static void refusedInOrder(PatchbayScript script, int line, String... made) {
        for (int i = 0; i < made.length; i++) {
            Due.is("what the program makes that is learnt after " + i + " refusals", Due.preview(script, 0, line), made[i]);
            if (i + 1 < made.length) {
                Due.is("refuse " + made[i], script.refuse(0, line), i + 1);
                script.learn(0);
            }
        }
    }

    /** Between the digits: as they are (from the first to the last or the second ones), then by the ways 1, 2, 3. */
    private static void cutsByWay() {
        Due.sentence(ATOMS, "CUTs by the first spot, then the second one, then the way");
        first("a", "A", 6, "1 12 15 1 6");
        first("  A", " a", 9, "1 1 15 2 9");
        refusedInOrder(Stories.learnt("1,11", ",", "2aBcD3"), 1, "aBcD", "ABCD", "abcd", "Abcd");
    }

    private static void eachesByClass() {
        Due.sentence(ATOMS, "EACHs by class, part, mark");
        first("a a", "aa", 6, "2 1 0 0 6");
        first("1 2", "12", 6, "2 0 0 0 6");
        refusedInOrder(Stories.learnt("a a", "aa", "b-c d"), 1, "bcd", "b-cd");
    }

    /** A CONST; then the first signs, the last ones; then from the place 2 to the end of the first run. */
    private static void eachesByPart() {
        Due.sentence(ATOMS, "EACHs by class, part, mark");
        first(".. a", ".a", 7, "2 3 1 0 7");
        refusedInOrder(Stories.learnt(" -- ", "-", "abcd"), 1, "-", "a", "d", "cd");
    }

    /** The last signs of the runs, with nothing or a mark between them: five count, and 2 to 5 are ahead of "/". */
    private static void eachesByMark() {
        Due.sentence(ATOMS, "EACHs by class, part, mark");
        PatchbayScript script = new PatchbayScript();
        Due.line(script, ",1");
        Due.line(script, ",  ");
        Due.line(script, "ab cd");
        Due.show(script, 0, 0, "1");
        Due.show(script, 0, 1, ",");
        Due.is("learn", script.learn(0), 7);
        refusedInOrder(script, 2, "bd", "b d", "b,d", "b.d", "b-d");
        Due.is("the fifth program", Due.atom(script, 0, false, 0), "2 3 2 4 8");
    }

    private static void firstAtomsThatAreUnlike() {
        Due.sentence(ATOMS, "of the same by their first atoms that are unlike");
        first("A b", "BAb", 12, "1 14 17 1 6", "2 1 0 0 6");
        first("a ", "a  ", 12, "1 12 3 0 6", "1 15 3 0 6");
        first("AAa", "AaA", 12, "1 12 21 3 6", "1 21 15 1 6");
        first("-a-a", "--aa", 12, "1 15 14 0 4", "1 15 17 0 4", "1 12 15 0 4");
        first(" 1", "111 1", 18, "1 6 9 0 4", "1 6 9 0 4", "1 6 9 0 4", "1 0 9 0 6");
    }
}
