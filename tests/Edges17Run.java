/** Promise 17, its boundaries: run; what runs do on lines, EdgesLines asks. */
public final class Edges17Run {
    private static final String PROMISE = "Promise 17";
    private static final int STOP = PatchbayScript.STOP;
    private static final int SKIP = PatchbayScript.SKIP;
    private static final int ASK = PatchbayScript.ASK;
    private static final int MIN = Integer.MIN_VALUE;
    private static final int MAX = Integer.MAX_VALUE;

    public static void main(String[] args) {
        howManyLines();
        from();
        to();
        firstAndLastWay();
        firstAndLastTask();
        noSuchTask();
        noSuchLine();
        toBelowFrom();
        wayOutOfRange();
        learntNothing();
        thirtyRuns();
        thirtyRunsOfOthers();
        severalExceptions();
        Due.end();
    }

    private static PatchbayScript eight() {
        return Stories.learnt("", "x", "b", "c", "d", "e", "f", "g", "h");
    }

    private static String all(PatchbayScript script) {
        StringBuilder text = new StringBuilder();
        for (int line = 0; line < 8; line++) {
            text.append(Due.text(script, line));
        }
        return text.toString();
    }

    private static void howManyLines() {
        Due.sentence(PROMISE, "Returns how many lines have it as a step.");
        PatchbayScript script = eight();
        Due.is("none, as the line has an example", script.run(0, 0, 0, STOP), 0);
        Due.is("one", script.run(0, 1, 1, STOP), 1);
        Due.is("seven: all but that of the example", script.run(0, 0, 7, STOP), 7);
        PatchbayScript other = Stories.capitals("1", "", "2");
        for (int way = STOP; way <= ASK; way++) {
            Due.is("none, as it fails on all", other.run(0, 0, 3, way), 0);
        }
        PatchbayScript last = new PatchbayScript();
        Stories.eightLines(last);
        last.run(2, 3, 7, SKIP);
        Due.show(last, 1, 0, "x");
        Due.is("a line that was x by then is a step too", last.run(2, 0, 7, SKIP), 7);
    }

    private static void from() {
        Due.sentence(PROMISE, "`from`: a line");
        for (int from = 0; from < 8; from++) {
            PatchbayScript script = eight();
            Due.is("from " + from + " to the last line", script.run(0, from, 7, STOP), Math.min(7, 8 - from));
            Due.is("the lines then", all(script), "xbcdefgh".substring(0, Math.max(1, from))
                    + "xxxxxxx".substring(Math.max(0, from - 1)));
        }
    }

    private static void to() {
        Due.sentence(PROMISE, "`to`: a line, not below from");
        PatchbayScript script = eight();
        script.run(0, 1, 1, STOP);
        Due.is("the line 1", all(script), "xxcdefgh");
        script.run(0, 7, 7, STOP);
        Due.is("the last line", all(script), "xxcdefgx");
        script.run(0, 3, 5, STOP);
        Due.is("the lines 3 to 5", all(script), "xxcxxxgx");
        script.run(0, 0, 7, STOP);
        Due.is("all lines", all(script), "xxxxxxxx");
        for (int run = 3; run >= 0; run--) {
            script.undo(run);
        }
        Due.is("none", all(script), "xbcdefgh");
    }

    private static void firstAndLastWay() {
        Due.sentence(PROMISE, "`way`: STOP, SKIP or ASK");
        PatchbayScript script = Stories.capitals("b", "1", "c");
        Due.is("the way 0", script.run(0, 0, 3, 0), 1);
        Due.is("none is asked", script.asked(), 0);
        Due.is("the way 1", script.run(0, 0, 3, 1), 2);
        Due.is("none is asked", script.asked(), 0);
        Due.is("the way 2", script.run(0, 0, 3, 2), 2);
        Due.is("one is asked", script.asked(), 1 << 2);
    }

    private static void firstAndLastTask() {
        Due.sentence(PROMISE, "`task`: 0 to 2");
        for (int task = 0; task < 3; task++) {
            PatchbayScript script = new PatchbayScript();
            script.line();
            Due.line(script, "a");
            Due.show(script, task, 0, "x");
            script.learn(task);
            Due.is("run(" + task + ", ..)", script.run(task, 1, 1, STOP), 1);
            Due.is("the line then", Due.text(script, 1), "x");
        }
    }

    private static void noSuchTask() {
        Due.sentence(PROMISE, "Throws `IndexOutOfBoundsException` if there is no such task, or line, of either");
        for (int task : Twins.outside(0, 2)) {
            Twins.failIndex("run(" + task + ", 0, 1, 0)", Stories::rich, script -> script.run(task, 0, 1, STOP));
        }
    }

    private static void noSuchLine() {
        Due.sentence(PROMISE, "Throws `IndexOutOfBoundsException` if there is no such task, or line, of either");
        for (int line : Twins.outside(0, 2)) {
            Twins.failIndex("run(0, " + line + ", 1, 0)", Stories::rich, script -> script.run(0, line, 1, STOP));
            Twins.failIndex("run(0, 1, " + line + ", 0)", Stories::rich, script -> script.run(0, 1, line, STOP));
            Twins.failIndex("run(0, " + line + ", " + line + ", 0)", Stories::rich,
                    script -> script.run(0, line, line, SKIP));
        }
        for (int line : Twins.outside(0, 7)) {
            Twins.failIndex("run(2, 0, " + line + ", 0) of eight", Stories::eightLines,
                    script -> script.run(2, 0, line, ASK));
        }
        Twins.failIndex("run(0, 0, 2^31 - 1, 2)", Stories::rich, script -> script.run(0, 0, MAX, ASK));
        Twins.failIndex("run(0, -2^31, 2^31 - 1, 2)", Stories::rich, script -> script.run(0, MIN, MAX, ASK));
    }

    private static void toBelowFrom() {
        Due.sentence(PROMISE, "Throws `IllegalArgumentException` if to is below from, or way is out of range");
        for (int from = 0; from < 3; from++) {
            for (int to = 0; to < from; to++) {
                int first = from;
                int last = to;
                Twins.failArgument("run(0, " + from + ", " + to + ", 1)", Stories::rich,
                        script -> script.run(0, first, last, SKIP));
            }
            PatchbayScript script = new PatchbayScript();
            Stories.rich(script);
            Due.is("run(2, " + from + ", " + from + ", 1)", script.run(2, from, from, SKIP), from == 2 ? 0 : 1);
        }
        Twins.failArgument("run(2, 7, 6, 1)", Stories::eightLines, script -> script.run(2, 7, 6, SKIP));
    }

    private static void wayOutOfRange() {
        Due.sentence(PROMISE, "Throws `IllegalArgumentException` if to is below from, or way is out of range");
        for (int way : Twins.outside(STOP, ASK)) {
            Twins.failArgument("run(0, 1, 2, " + way + ")", Stories::rich, script -> script.run(0, 1, 2, way));
        }
    }

    private static void learntNothing() {
        Due.sentence(PROMISE, "Throws `IllegalStateException` if the task has learnt nothing, or there were 30 runs");
        Twins.failState("run of what is shown, not learnt", Stories::rich, script -> script.run(1, 0, 2, SKIP));
        Twins.failState("run of what is learnt no more", script -> {
            Stories.rich(script);
            script.pin(2, 0, PatchbayScript.EACH, 0, 0, 0);
            script.learn(2);
        }, script -> script.run(2, 0, 2, ASK));
        PatchbayScript script = new PatchbayScript();
        script.line();
        Due.failsState("run of a new task", () -> script.run(0, 0, 0, STOP));
    }

    private static void thirtyRuns() {
        Due.sentence(PROMISE, "Throws `IllegalStateException` if the task has learnt nothing, or there were 30 runs");
        PatchbayScript script = new PatchbayScript();
        Stories.withRuns(script, 29);
        Due.is("29 runs", script.runs(), 29);
        Due.is("a run 30", script.run(2, 0, 2, SKIP), 2);
        Due.is("30 runs", script.runs(), 30);
        Due.failsState("a run 31", () -> script.run(2, 0, 2, SKIP));
        for (int way = STOP; way <= ASK; way++) {
            int of = way;
            Twins.failState("a run 31 by " + way, twin -> Stories.withRuns(twin, 30), twin -> twin.run(0, 0, 2, of));
        }
        script.undo(29);
        Due.failsState("a run 31 where one is undone", () -> script.run(2, 0, 0, SKIP));
    }

    /** Runs on no line count, and those of standing tasks. */
    private static void thirtyRunsOfOthers() {
        Due.sentence(PROMISE, "Throws `IllegalStateException` if the task has learnt nothing, or there were 30 runs");
        PatchbayScript script = Stories.capitals("1");
        script.stand(0, true);
        for (int line = 2; line < 8; line++) {
            Due.line(script, "2");
        }
        for (int run = 6; run < 30; run++) {
            Due.is("the run " + run, script.run(0, 0, 7, run % 3), 0);
        }
        Due.failsState("a run 31", () -> script.run(0, 0, 7, SKIP));
        Due.is("30 runs", script.runs(), 30);
    }

    private static void severalExceptions() {
        Due.sentence("Terms", "if several exceptions apply, the one that its @throws lines name first is thrown");
        for (int way : Twins.outside(STOP, ASK)) {
            Twins.failIndex("run(3, 0, 2, " + way + ")", Stories::rich, script -> script.run(3, 0, 2, way));
            Twins.failIndex("run(0, 0, 3, " + way + ")", Stories::rich, script -> script.run(0, 0, 3, way));
            Twins.failIndex("run(0, -1, 0, " + way + ")", Stories::rich, script -> script.run(0, -1, 0, way));
            Twins.failArgument("run(1, 0, 2, " + way + ") of nothing", Stories::rich, script -> script.run(1, 0, 2, way));
            Twins.failArgument("a run 31 by " + way, script -> Stories.withRuns(script, 30),
                    script -> script.run(0, 0, 2, way));
        }
        Twins.failIndex("run(0, 3, 2, 0), where there is no line 3", Stories::rich, script -> script.run(0, 3, 2, STOP));
        Twins.failIndex("run(0, 1, -1, 0)", Stories::rich, script -> script.run(0, 1, -1, STOP));
        Twins.failIndex("run(1, 3, 3, 0) of nothing", Stories::rich, script -> script.run(1, 3, 3, STOP));
        Twins.failIndex("a run 31 of no task", script -> Stories.withRuns(script, 30), script -> script.run(-1, 0, 0, STOP));
        Twins.failArgument("run(1, 2, 1, 0) of nothing", Stories::rich, script -> script.run(1, 2, 1, STOP));
        Twins.failArgument("a run 31 from 2 to 1", script -> Stories.withRuns(script, 30),
                script -> script.run(0, 2, 1, STOP));
    }
}
