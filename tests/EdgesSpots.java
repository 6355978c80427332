/** Boundaries of the terms: where spots are, where they are none, and what they weigh. */
public final class EdgesSpots {
    private static final String TEXTS = "Texts, runs, spots";
    private static final int NO = PatchbayScript.NONE;
    private static final int CUT = PatchbayScript.CUT;
    /** By spot. */
    private static final int[] WEIGHTS = {3, 4, 5, 3, 4, 5, 1, 2, 1, 1, 2, 1, 1, 2, 1, 1, 2, 1, 1, 2, 1, 1, 2, 1, 1, 2, 1,
        1, 2, 1};

    public static void main(String[] args) {
        fromZeroToTheLength();
        fromTheBeginning();
        fromTheEnd();
        runs();
        noRuns();
        weightsOfEnds();
        weightsOfRuns();
        Due.end();
    }

    private static void are(String text, int first, int... places) {
        PatchbayScript script = new PatchbayScript();
        Due.line(script, text);
        for (int i = 0; i < places.length; i++) {
            Due.is("the spot " + (first + i) + " of '" + text + "'", script.placeOf(0, first + i), places[i]);
        }
    }

    private static void fromZeroToTheLength() {
        Due.sentence(TEXTS, "A spot tells a place of a text, from 0 up to its length, or none");
        String[] texts = {"", " ", "a", "1 A", "Ab-12 C,d 34", "aB1 cD2 eF3 gH4 iJ5-", "1a2B3c4D5e6F7g8H9i0J"};
        for (String text : texts) {
            PatchbayScript script = new PatchbayScript();
            Due.line(script, text);
            for (int spot = 0; spot < 30; spot++) {
                int place = script.placeOf(0, spot);
                Due.is("whether the spot " + spot + " of '" + text + "' is in it, or none", place == NO
                        || place >= 0 && place <= text.length(), true);
            }
        }
        are("1a2B3c4D5e6F7g8H9i0J", 24, 0, NO, 0, 20, NO, 20);
        are("1a2B3c4D5e6F7g8H9i0J", 18, 3, 7, 19, 4, 8, 20);
    }

    private static void fromTheBeginning() {
        Due.sentence(TEXTS, "The spots 0, 1, 2: as much as their number, if the text is as long.");
        are("", 0, 0, NO, NO);
        are("-", 0, 0, 1, NO);
        are("--", 0, 0, 1, 2);
        are("---", 0, 0, 1, 2);
        are("--------------------", 0, 0, 1, 2);
    }

    private static void fromTheEnd() {
        Due.sentence(TEXTS, "The spots 3, 4, 5: the length less 0, 1, 2, likewise.");
        are("", 3, 0, NO, NO);
        are(" ", 3, 1, 0, NO);
        are("  ", 3, 2, 1, 0);
        are("   ", 3, 3, 2, 1);
        are("                    ", 3, 20, 19, 18);
    }

    /** Of each class one to four runs of two signs, with one sign between them, and once with one ahead and behind. */
    private static void runs() {
        Due.sentence(TEXTS, "The spots 6 to 29 are 6, and 6 times a class, and 3 more for the end of a run, none for its"
                + " beginning, and 0 for the first run of the class, 1 for the second one, 2 for the last one");
        String[] runs = {"47", "kB", "DM", "-a"};
        String[] between = {"x", ".", "x", " "};
        for (int kind = 0; kind < 4; kind++) {
            String one = runs[kind];
            String other = between[kind];
            int spot = 6 + 6 * kind;
            are(one, spot, 0, NO, 0, 2, NO, 2);
            are(one + other + one, spot, 0, 3, 3, 2, 5, 5);
            are(one + other + one + other + one, spot, 0, 3, 6, 2, 5, 8);
            are(one + other + one + other + one + other + one, spot, 0, 3, 9, 2, 5, 11);
            are(other + one + other, spot, 1, NO, 1, 3, NO, 3);
            are(other + one + other + one + other, spot, 1, 4, 4, 3, 6, 6);
        }
    }

    private static void noRuns() {
        Due.sentence(TEXTS, "none, if there are not so many");
        String[] without = {"aA -", "12 .", "ab 1-", "   "};
        for (int kind = 0; kind < 4; kind++) {
            are(without[kind], 6 + 6 * kind, NO, NO, NO, NO, NO, NO);
            are("", 6 + 6 * kind, NO, NO, NO, NO, NO, NO);
        }
    }

    /** A CUT is pinned, so that the lightest program that counts is that CUT alone. */
    private static void weigh(String text, int first, int second) {
        PatchbayScript script = new PatchbayScript();
        Due.line(script, text);
        int from = script.placeOf(0, first);
        int to = script.placeOf(0, second);
        if (from == NO || from >= to) {
            return;
        }
        Due.show(script, 0, 0, text.substring(from, to));
        script.pin(0, 0, CUT, first, second, 0);
        int due = 2 + WEIGHTS[first] + WEIGHTS[second];
        String cut = "the CUT from " + first + " to " + second + " of '" + text + "'";
        Due.is("weight of " + cut, script.weight(0, 0), due);
        Due.is("learn of " + cut, script.learn(0), due);
        Due.is("atomAt of " + cut, script.atomAt(0, false, 0, 4), due);
    }

    private static void weightsOfEnds() {
        Due.sentence(TEXTS, "Their weights are 3, 4, 5, and again 3, 4, 5.");
        for (int first = 0; first < 6; first++) {
            for (int second = 0; second < 6; second++) {
                weigh("a-b c", first, second);
            }
        }
    }

    private static void weightsOfRuns() {
        Due.sentence(TEXTS, "Their weights are 1, for the first and the last one, and 2 for the second one.");
        for (int first = 0; first < 30; first++) {
            for (int second = 0; second < 30; second++) {
                weigh("1aB-2 cD4 Ef.5 6", first, second);
            }
        }
    }
}
