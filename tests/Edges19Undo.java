/** Promise 19, its boundaries: undo; what lines are then, EdgesLines asks. */
public final class Edges19Undo {
    private static final String PROMISE = "Promise 19";
    private static final int SKIP = PatchbayScript.SKIP;

    public static void main(String[] args) {
        whetherItCounts();
        firstAndLastRun();
        oneAmongOthers();
        onAllLines();
        onManyLines();
        onNoLine();
        changesNothingElse();
        noSuchRun();
        noneOfThirty();
        Due.end();
    }

    private static void whetherItCounts() {
        Due.sentence(PROMISE, "Returns whether it counts then.");
        PatchbayScript script = Stories.capitals("b");
        script.run(0, 1, 1, SKIP);
        script.run(0, 1, 1, SKIP);
        for (int i = 0; i < 3; i++) {
            Due.is("undo the run 0", script.undo(0), false);
            Due.is("undo the run 1", script.undo(1), false);
            Due.is("do the run 0 again", script.undo(0), true);
            Due.is("do the run 1 again", script.undo(1), true);
        }
    }

    private static void firstAndLastRun() {
        Due.sentence(PROMISE, "`run`: a run, from 0");
        PatchbayScript script = Stories.capitals("b", "c");
        script.run(0, 1, 1, SKIP);
        for (int run = 1; run < 29; run++) {
            script.run(0, 0, 0, SKIP);
        }
        script.run(0, 2, 2, SKIP);
        Due.is("undo the run 29", script.undo(29), false);
        Due.is("its line", Due.text(script, 2), "c");
        Due.is("that of the run 0", Due.text(script, 1), "B");
        Due.is("undo the run 0", script.undo(0), false);
        Due.is("its line", Due.text(script, 1), "b");
        Due.is("do the run 29 again", script.undo(29), true);
        Due.is("its line", Due.text(script, 2), "C");
        Due.is("that of the run 0", Due.text(script, 1), "b");
    }

    /** Of three runs that swap the words of a line, each is undone alone, then each two, then all. */
    private static void oneAmongOthers() {
        Due.sentence(PROMISE, "Undoes a run, or does it again.");
        PatchbayScript script = Stories.learnt("ab cd", "cd ab", "e f");
        for (int run = 0; run < 3; run++) {
            script.run(0, 1, 1, SKIP);
        }
        Due.is("three runs", Due.text(script, 1), "f e");
        int counting = 3;
        int[] undone = {0, 1, 0, 2, 0, 1, 0, 2};
        boolean[] counts = {true, true, true};
        for (int run : undone) {
            counts[run] = !counts[run];
            counting += counts[run] ? 1 : -1;
            Due.is("undo the run " + run, script.undo(run), counts[run]);
            Due.is(counting + " runs", Due.text(script, 1), counting % 2 == 0 ? "e f" : "f e");
        }
    }

    private static void onAllLines() {
        Due.sentence(PROMISE, "Undoes a run, or does it again.");
        PatchbayScript script = new PatchbayScript();
        for (int line = 0; line < 8; line++) {
            Due.line(script, "abcdefgh".substring(line));
        }
        Due.show(script, 1, 3, "DEFGH");
        Due.is("learn", script.learn(1), 6);
        script.run(1, 0, 7, SKIP);
        for (int i = 0; i < 2; i++) {
            Due.is("undo", script.undo(0), false);
            for (int line = 0; line < 8; line++) {
                Due.is("the line " + line, Due.text(script, line), line == 3 ? "DEFGH" : "abcdefgh".substring(line));
            }
            Due.is("do again", script.undo(0), true);
            for (int line = 0; line < 8; line++) {
                Due.is("the line " + line, Due.text(script, line), "ABCDEFGH".substring(line));
            }
        }
    }

    private static void onManyLines() {
        Due.sentence(PROMISE, "Undoes a run, or does it again.");
        PatchbayScript script = Stories.capitals("b", "c", "1", "d");
        script.run(0, 1, 4, SKIP);
        script.undo(0);
        Due.is("the first of its lines", Due.text(script, 1), "b");
        Due.is("the second of its lines", Due.text(script, 2), "c");
        Due.is("one that was left out", Due.text(script, 3), "1");
        Due.is("the last of its lines", Due.text(script, 4), "d");
        Due.show(script, 1, 3, "e");
        script.undo(0);
        Due.is("the last of its lines again", Due.text(script, 4), "D");
        Due.is("the one that was left out does not have it as a step", Due.text(script, 3), "e");
    }

    private static void onNoLine() {
        Due.sentence(PROMISE, "Undoes a run, or does it again.");
        PatchbayScript script = Stories.capitals("1");
        Due.is("a run on no line", script.run(0, 0, 1, SKIP), 0);
        Due.is("undo it", script.undo(0), false);
        Due.is("do it again", script.undo(0), true);
        Due.is("the line", Due.text(script, 1), "1");
    }

    private static void changesNothingElse() {
        Due.sentence(PROMISE, "Undoes a run, or does it again.");
        PatchbayScript script = new PatchbayScript();
        PatchbayScript other = new PatchbayScript();
        Stories.rich(script);
        Stories.rich(other);
        Due.is("undo", script.undo(0), false);
        Due.is("do again", script.undo(0), true);
        Due.is("do another one again", script.undo(1), true);
        Due.is("undo it", script.undo(1), false);
        Due.is("what is told then", Probe.told(script), Probe.told(other));
    }

    private static void noSuchRun() {
        Due.sentence(PROMISE, "Throws `IndexOutOfBoundsException` if there is no such run");
        for (int run : Twins.outside(0, 1)) {
            Twins.failIndex("undo(" + run + ")", Stories::rich, script -> script.undo(run) ? 1 : 0);
        }
        for (int run : new int[] {Integer.MIN_VALUE, -1, 0, 1, Integer.MAX_VALUE}) {
            Due.failsIndex("undo(" + run + ") of a new object", () -> new PatchbayScript().undo(run) ? 1 : 0);
        }
        PatchbayScript script = Stories.capitals("b");
        for (int i = 0; i < 30; i++) {
            int run = i;
            Due.failsIndex("undo(" + run + ") ahead of it", () -> script.undo(run) ? 1 : 0);
            script.run(0, 1, 1, SKIP);
            Due.is("undo(" + run + ")", script.undo(run), false);
        }
    }

    private static void noneOfThirty() {
        Due.sentence(PROMISE, "Throws `IndexOutOfBoundsException` if there is no such run");
        for (int run : Twins.outside(0, 29)) {
            Twins.failIndex("undo(" + run + ") of thirty", script -> Stories.withRuns(script, 30),
                    script -> script.undo(run) ? 1 : 0);
        }
    }
}
