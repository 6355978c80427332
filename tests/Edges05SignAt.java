/** Promise 5, its boundaries: signAt. */
public final class Edges05SignAt {
    private static final String PROMISE = "Promise 5";
    private static final String FULL = "zyxwvutsrq,.-/ AB019";

    public static void main(String[] args) {
        allPlaces();
        placesOfTheTextAsItIs();
        noSuchSign();
        noSignOfAnEmptyText();
        noSuchLine();
        Due.end();
    }

    private static void allPlaces() {
        Due.sentence(PROMISE, "`place`: from 0");
        PatchbayScript script = new PatchbayScript();
        Due.line(script, "q");
        Due.line(script, FULL);
        Due.is("the only sign", script.signAt(0, 0), 'q');
        for (int place = 0; place < 20; place++) {
            Due.is("signAt(1, " + place + ")", script.signAt(1, place), FULL.charAt(place));
        }
    }

    private static void placesOfTheTextAsItIs() {
        Due.sentence(PROMISE, "Returns a sign of the text of a line.");
        PatchbayScript script = Stories.capitals("fghij");
        script.run(0, 1, 1, PatchbayScript.STOP);
        Due.is("of what a run made", script.signAt(1, 4), 'J');
        script.undo(0);
        Due.is("without the run", script.signAt(1, 4), 'j');
        Due.show(script, 1, 1, "k");
        Due.is("of what was shown", script.signAt(1, 0), 'k');
        Due.failsIndex("of what was there", () -> script.signAt(1, 1));
    }

    private static void noSuchSign() {
        Due.sentence(PROMISE, "Throws `IndexOutOfBoundsException` if there is no such line or sign");
        for (int place : Twins.outside(0, 1)) {
            Twins.failIndex("signAt(0, " + place + ")", Stories::rich, script -> script.signAt(0, place));
        }
        PatchbayScript script = new PatchbayScript();
        Due.line(script, FULL);
        for (int place : Twins.outside(0, 19)) {
            Due.failsIndex("signAt(0, " + place + ") of a full text", () -> script.signAt(0, place));
        }
    }

    private static void noSignOfAnEmptyText() {
        Due.sentence(PROMISE, "Throws `IndexOutOfBoundsException` if there is no such line or sign");
        PatchbayScript script = new PatchbayScript();
        script.line();
        for (int place : Twins.outside(1, 0)) {
            Due.failsIndex("signAt(0, " + place + ") of an empty text", () -> script.signAt(0, place));
        }
    }

    private static void noSuchLine() {
        Due.sentence(PROMISE, "Throws `IndexOutOfBoundsException` if there is no such line or sign");
        for (int line : Twins.outside(0, 2)) {
            Twins.failIndex("signAt(" + line + ", 0)", Stories::rich, script -> script.signAt(line, 0));
            Twins.failIndex("signAt(" + line + ", -1)", Stories::rich, script -> script.signAt(line, -1));
        }
        for (int line : Twins.outside(0, 7)) {
            Twins.failIndex("signAt(" + line + ", 0) of eight", Stories::eightLines, script -> script.signAt(line, 0));
        }
        PatchbayScript script = new PatchbayScript();
        Stories.eightLines(script);
        Due.is("a sign of the last line", script.signAt(7, 0), '7');
    }
}
