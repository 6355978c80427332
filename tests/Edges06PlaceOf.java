/** Promise 6, its boundaries: placeOf; where each spot is, EdgesSpots asks. */
public final class Edges06PlaceOf {
    private static final String PROMISE = "Promise 6";
    private static final int NONE = PatchbayScript.NONE;

    public static void main(String[] args) {
        firstAndLastSpot();
        placeOrNone();
        ofTheTextAsItIs();
        noSuchLine();
        noSuchSpot();
        neither();
        Due.end();
    }

    private static void firstAndLastSpot() {
        Due.sentence(PROMISE, "`spot`: 0 to 29");
        PatchbayScript script = new PatchbayScript();
        Due.line(script, " ab c");
        Due.is("the first spot", script.placeOf(0, 0), 0);
        Due.is("the last spot", script.placeOf(0, 29), 5);
        Due.is("the spot ahead of it", script.placeOf(0, 28), 5);
        Due.is("the spot 6", script.placeOf(0, 6), NONE);
        Due.is("the spot 5", script.placeOf(0, 5), 3);
    }

    private static void placeOrNone() {
        Due.sentence(PROMISE, "Returns the place, or NONE.");
        PatchbayScript script = new PatchbayScript();
        Due.line(script, "");
        Due.line(script, "abcdefghij0123456789");
        Due.is("the beginning of an empty text", script.placeOf(0, 0), 0);
        Due.is("its end", script.placeOf(0, 3), 0);
        for (int spot = 0; spot < 30; spot++) {
            if (spot != 0 && spot != 3) {
                Due.is("the spot " + spot + " of an empty text", script.placeOf(0, spot), NONE);
            }
        }
        Due.is("the end of a full text", script.placeOf(1, 3), 20);
        Due.is("the end of its digits", script.placeOf(1, 11), 20);
        Due.is("its second digits", script.placeOf(1, 7), NONE);
    }

    private static void ofTheTextAsItIs() {
        Due.sentence(PROMISE, "Returns the place that a spot tells in the text of a line.");
        PatchbayScript script = Stories.capitals("fg 1");
        Due.is("no capitals", script.placeOf(1, 18), NONE);
        script.run(0, 1, 1, PatchbayScript.STOP);
        Due.is("capitals", script.placeOf(1, 21), 2);
        Due.is("no digits", script.placeOf(1, 6), NONE);
        script.undo(0);
        Due.is("digits", script.placeOf(1, 6), 3);
        Due.is("no capitals again", script.placeOf(1, 21), NONE);
    }

    private static void noSuchLine() {
        Due.sentence(PROMISE, "Throws `IndexOutOfBoundsException` if there is no such line");
        for (int line : Twins.outside(0, 2)) {
            Twins.failIndex("placeOf(" + line + ", 0)", Stories::rich, script -> script.placeOf(line, 0));
        }
        for (int line : Twins.outside(0, 7)) {
            Twins.failIndex("placeOf(" + line + ", 0) of eight", Stories::eightLines, script -> script.placeOf(line, 0));
        }
    }

    private static void noSuchSpot() {
        Due.sentence(PROMISE, "Throws `IllegalArgumentException` if spot is out of range");
        for (int spot : Twins.outside(0, 29)) {
            Twins.failArgument("placeOf(0, " + spot + ")", Stories::rich, script -> script.placeOf(0, spot));
            Twins.failArgument("placeOf(2, " + spot + ")", Stories::rich, script -> script.placeOf(2, spot));
        }
    }

    private static void neither() {
        Due.sentence("Terms", "if several exceptions apply, the one that its @throws lines name first is thrown");
        for (int spot : Twins.outside(0, 29)) {
            for (int line : Twins.outside(0, 2)) {
                Twins.failIndex("placeOf(" + line + ", " + spot + ")", Stories::rich, script -> script.placeOf(line, spot));
            }
        }
    }
}
