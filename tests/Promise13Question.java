/** Promise 13: question. */
public final class Promise13Question {
    private static final int NONE = PatchbayScript.NONE;

    public static void main(String[] args) {
        PatchbayScript script = new PatchbayScript();
        Due.failsIndex("question(-1)", () -> script.question(-1));
        Due.failsIndex("question(3)", () -> script.question(3));
        Due.is("question without lines", script.question(0), NONE);
        lowestLine();
        failing();
        fitOnes();
        asLinesAre();
        Due.end();
    }

    /** The five of "a" to "a" take letters, from the first run to the first or the last, or all but blanks. */
    private static void lowestLine() {
        PatchbayScript script = new PatchbayScript();
        Due.line(script, "a");
        Due.is("question without examples", script.question(0), NONE);
        Due.show(script, 0, 0, "a");
        Due.is("question without other lines", script.question(0), NONE);
        Due.line(script, "b");
        Due.is("all make the same", script.question(0), NONE);
        Due.line(script, "bc de");
        Due.is("some make one word, some two", script.question(0), 2);
        Due.line(script, "f g");
        Due.is("the lowest line", script.question(0), 2);
        Due.is("it needs no learning", script.condition(0), NONE);
        Due.is("question of another task", script.question(1), NONE);
        Due.show(script, 0, 2, "de");
        Due.is("with an example there", script.question(0), NONE);
        Due.is("what counts then", script.count(0), 5);
    }

    /** Where all fail, they do not differ; where one fails and another does not, they do. */
    private static void failing() {
        PatchbayScript script = new PatchbayScript();
        Due.line(script, "1");
        Due.line(script, "a");
        Due.line(script, "2 3");
        Due.show(script, 0, 0, "1");
        script.pin(0, 0, PatchbayScript.CUT, 6, 9, 0);
        Due.is("one program alone", script.question(0), NONE);
        script.pin(0, 0, PatchbayScript.NONE, 0, 0, 0);
        Due.is("from the first digits to the first or the last ones; on 'a' all five fail", script.question(0), 2);
        Due.line(script, "");
        Due.show(script, 1, 3, "abab");
        Due.is("CONSTs make the same", script.question(1), NONE);

        PatchbayScript other = new PatchbayScript();
        Due.line(other, "a");
        Due.line(other, "");
        Due.line(other, "-");
        other.type('a');
        other.pin(0, 1, PatchbayScript.CONST, 0, 0, 0);
        Due.show(other, 0, 0, "aa");
        Due.is("the first is a CONST alone", other.weight(0, 0), 10);
        Due.is("then come a CUT and the pinned CONST", other.weight(0, 1), 11);
        Due.is("a CUT fails on the empty line, a CONST does not", other.question(0), 1);
    }

    private static void fitOnes() {
        PatchbayScript script = new PatchbayScript();
        Due.line(script, "a");
        Due.line(script, "bc de");
        Due.show(script, 0, 0, "a");
        Due.is("they differ", script.question(0), 1);
        Due.is("learn", script.learn(0), 4);
        Due.is("the first one", Due.preview(script, 0, 1), "bc");
        Due.is("refuse it", script.refuse(0, 1), 1);
        Due.is("the others differ not: two make all", script.learn(0), 4);
        Due.is("what they make", Due.preview(script, 0, 1), "bc de");
        Due.is("question among those that are fit", script.question(0), 1);
        Due.is("refuse that too", script.refuse(0, 1), 2);
        Due.is("the one that is left", script.learn(0), 4);
        Due.is("it fails there", Due.preview(script, 0, 1), "?");
        Due.is("one alone does not differ", script.question(0), NONE);
    }

    private static void asLinesAre() {
        PatchbayScript script = new PatchbayScript();
        Due.line(script, "a");
        Due.line(script, "bc");
        Due.show(script, 0, 0, "a");
        Due.is("they make the same", script.question(0), NONE);
        Due.show(script, 1, 1, "bc de");
        Due.is("the line as it is now", script.question(0), 1);
        Due.show(script, 2, 0, "fg hi");
        Due.is("a line with an example is left out as it is now", script.question(0), 1);
    }
}
