/** Promise 6: placeOf. */
public final class Promise06PlaceOf {
    private static final int NO = PatchbayScript.NONE;

    public static void main(String[] args) {
        allSpots("Ab 12,C3 x", 0, 1, 2, 10, 9, 8,
                3, 7, 7, 5, 8, 8,
                0, 6, 9, 2, 7, 10,
                0, 6, 6, 1, 7, 7,
                0, 3, 9, 2, 8, 10);
        allSpots("a", 0, 1, NO, 1, 0, NO,
                NO, NO, NO, NO, NO, NO,
                0, NO, 0, 1, NO, 1,
                NO, NO, NO, NO, NO, NO,
                0, NO, 0, 1, NO, 1);
        allSpots("", 0, NO, NO, 0, NO, NO,
                NO, NO, NO, NO, NO, NO,
                NO, NO, NO, NO, NO, NO,
                NO, NO, NO, NO, NO, NO,
                NO, NO, NO, NO, NO, NO);
        allSpots("  ", 0, 1, 2, 2, 1, 0,
                NO, NO, NO, NO, NO, NO,
                NO, NO, NO, NO, NO, NO,
                NO, NO, NO, NO, NO, NO,
                NO, NO, NO, NO, NO, NO);
        allSpots("1.22.333.4444.55555A", 0, 1, 2, 20, 19, 18,
                0, 2, 14, 1, 4, 19,
                19, NO, 19, 20, NO, 20,
                19, NO, 19, 20, NO, 20,
                0, NO, 0, 20, NO, 20);
        allSpots("aBcDE ,z", 0, 1, 2, 8, 7, 6,
                NO, NO, NO, NO, NO, NO,
                0, 7, 7, 5, 8, 8,
                1, 3, 3, 2, 5, 5,
                0, 6, 6, 5, 8, 8);
        wrongCalls();
        Due.end();
    }

    private static void allSpots(String text, int... places) {
        PatchbayScript script = new PatchbayScript();
        Due.line(script, "q 1 Q");
        Due.line(script, text);
        for (int spot = 0; spot < 30; spot++) {
            Due.is("the spot " + spot + " of '" + text + "'", script.placeOf(1, spot), places[spot]);
        }
    }

    private static void wrongCalls() {
        PatchbayScript script = new PatchbayScript();
        Due.failsIndex("placeOf without lines", () -> script.placeOf(0, 0));
        Due.failsIndex("placeOf without lines or such a spot", () -> script.placeOf(0, 30));
        Due.line(script, "a1");
        Due.failsArgument("placeOf(0, -1)", () -> script.placeOf(0, -1));
        Due.failsArgument("placeOf(0, 30)", () -> script.placeOf(0, 30));
        Due.failsArgument("placeOf(0, MIN)", () -> script.placeOf(0, Integer.MIN_VALUE));
        Due.failsIndex("placeOf(1, 0)", () -> script.placeOf(1, 0));
        Due.failsIndex("placeOf(-1, 31)", () -> script.placeOf(-1, 31));
        Due.show(script, 0, 0, "abc");
        Due.is("the end of what was shown", script.placeOf(0, 3), 3);
    }
}
