/** Boundaries of the terms: lines and their steps, what runs do where a program fails, and runs that are undone. */
public final class EdgesLines {
    private static final String LINES = "Lines, steps";
    private static final int STOP = PatchbayScript.STOP;
    private static final int SKIP = PatchbayScript.SKIP;
    private static final int ASK = PatchbayScript.ASK;

    public static void main(String[] args) {
        eightLines();
        textWithWhichItCame();
        mostSteps();
        stepsInOrder();
        shownBetweenRuns();
        shownToFourExamples();
        leavesIt();
        conditionThen();
        learntThen();
        exampleLinesAreLeft();
        exampleOfAnotherTask();
        stops();
        skips();
        asks();
        lastStep();
        undoneAndDoneAgain();
        standingRuns();
        standingNumbers();
        Due.end();
    }

    private static void texts(PatchbayScript script, int first, String... texts) {
        for (int i = 0; i < texts.length; i++) {
            Due.is("the line " + (first + i), Due.text(script, first + i), texts[i]);
        }
    }

    private static void eightLines() {
        Due.sentence(LINES, "There are lines, up to 8, numbered from 0, each with the text with which it came, and steps");
        PatchbayScript script = new PatchbayScript();
        Due.failsIndex("the line 0 ahead of all", () -> script.length(0));
        for (int line = 0; line < 8; line++) {
            Due.is("a line", Due.line(script, "abcdefgh".substring(line)), line);
        }
        Due.failsState("a ninth line", script::line);
        texts(script, 0, "abcdefgh", "bcdefgh", "cdefgh", "defgh", "efgh", "fgh", "gh", "h");
    }

    private static void textWithWhichItCame() {
        Due.sentence(LINES, "each with the text with which it came, and steps: what was shown on it, and runs");
        PatchbayScript script = Stories.capitals("fg", "");
        script.stand(0, true);
        Due.line(script, "hi");
        script.run(0, 1, 3, SKIP);
        texts(script, 0, "ABCDE", "FG", "", "HI");
        script.undo(0);
        script.undo(1);
        texts(script, 0, "ABCDE", "fg", "", "hi");
    }

    /** The task 0 swaps two words, by 30 runs on one line, on which three examples are shown besides. */
    private static void mostSteps() {
        Due.sentence(LINES, "The text of a line is what its steps make of that, in their order, those of runs that were"
                + " undone left out");
        PatchbayScript script = Stories.learnt("ab cd", "cd ab", "e f");
        Due.show(script, 1, 1, "g h");
        for (int i = 0; i < 30; i++) {
            Due.is("run " + i, script.run(0, 1, 1, STOP), 1);
        }
        texts(script, 1, "g h");
        script.undo(0);
        texts(script, 1, "h g");
        script.undo(29);
        texts(script, 1, "g h");
        script.undo(15);
        texts(script, 1, "h g");
        Due.show(script, 2, 1, "i j");
        Due.show(script, 0, 1, "k l");
        texts(script, 1, "k l");
        script.undo(15);
        texts(script, 1, "k l");
    }

    private static void stepsInOrder() {
        Due.sentence(LINES, "The text of a line is what its steps make of that, in their order, those of runs that were"
                + " undone left out");
        PatchbayScript script = Stories.learnt("abcde", "abcde.", "fg");
        Due.show(script, 1, 0, "ABCDE.");
        Due.is("learn to put letters in capitals, and all behind them", script.learn(1), 6);
        script.run(0, 1, 1, STOP);
        script.run(1, 1, 1, STOP);
        script.run(0, 1, 1, STOP);
        texts(script, 1, "FG.");
        script.undo(0);
        texts(script, 1, "FG.");
        script.undo(2);
        texts(script, 1, "FG");
        script.undo(1);
        texts(script, 1, "fg");
        script.undo(0);
        texts(script, 1, "fg.");
    }

    private static void shownBetweenRuns() {
        Due.sentence(LINES, "showing makes it what was shown");
        PatchbayScript script = Stories.capitals("fg");
        script.run(0, 1, 1, STOP);
        Due.show(script, 1, 1, "hi");
        texts(script, 1, "hi");
        script.run(0, 1, 1, STOP);
        texts(script, 1, "HI");
        script.undo(0);
        texts(script, 1, "HI");
        script.undo(1);
        texts(script, 1, "hi");
        script.undo(0);
        texts(script, 1, "hi");
    }

    /** Each of the lines has an example of the tasks 1 and 2 as steps, and then a run that is undone. */
    private static void shownToFourExamples() {
        Due.sentence(LINES, "showing makes it what was shown");
        PatchbayScript script = Stories.capitals("f", "g", "h", "i");
        for (int line = 1; line <= 4; line++) {
            Due.show(script, 1, line, "j" + line);
            Due.show(script, 2, 5 - line, "k" + line);
        }
        texts(script, 1, "k4", "k3", "j3", "j4");
        Due.is("run", script.run(0, 1, 4, STOP), 4);
        texts(script, 1, "K", "K", "J", "J");
        script.undo(0);
        texts(script, 1, "k4", "k3", "j3", "j4");
        script.undo(0);
        texts(script, 1, "K", "K", "J", "J");
    }

    /** A run that has the line as its step, but whose program fails on it once a run ahead is undone. */
    private static void leavesIt() {
        Due.sentence(LINES, "or leaves it, if that fails");
        PatchbayScript script = Stories.learnt("", "ab", "1");
        Due.line(script, "cdefg");
        Due.show(script, 1, 2, "CDEFG");
        script.learn(1);
        script.run(0, 1, 1, STOP);
        script.run(1, 1, 1, STOP);
        texts(script, 1, "AB");
        script.undo(0);
        texts(script, 1, "1");
        script.undo(0);
        texts(script, 1, "AB");
        script.undo(1);
        texts(script, 1, "ab");
    }

    /** Two runs that put capitals for small letters, and small ones for capitals. */
    private static void conditionThen() {
        Due.sentence(LINES, "where it is parted, the condition is asked of the text as it is then");
        PatchbayScript script = new PatchbayScript();
        Due.line(script, "ab");
        Due.line(script, "CD");
        Due.line(script, "ef");
        Due.show(script, 0, 0, "AB");
        Due.show(script, 0, 1, "cd");
        Due.is("learn", script.learn(0), 12);
        Due.is("the condition", script.condition(0), 6);
        script.run(0, 2, 2, STOP);
        script.run(0, 2, 2, STOP);
        script.run(0, 2, 2, STOP);
        texts(script, 2, "EF");
        script.undo(1);
        texts(script, 2, "ef");
        script.undo(0);
        texts(script, 2, "EF");
        script.undo(2);
        texts(script, 2, "ef");
    }

    private static void learntThen() {
        Due.sentence(LINES, "a run makes it what that which the task had learnt when it ran makes of it");
        PatchbayScript script = Stories.capitals("fg", "hi");
        script.run(0, 1, 2, STOP);
        Due.show(script, 0, 2, "x");
        Due.is("learn x of capitals, and capitals", script.learn(0), 13);
        script.undo(0);
        texts(script, 0, "ABCDE", "fg", "x");
        script.undo(0);
        texts(script, 0, "ABCDE", "FG", "x");
        script.pin(0, 0, PatchbayScript.EACH, 0, 0, 0);
        Due.is("learn nothing", script.learn(0), PatchbayScript.NONE);
        script.undo(0);
        texts(script, 0, "ABCDE", "fg", "x");
        script.undo(0);
        texts(script, 0, "ABCDE", "FG", "x");
    }

    private static void exampleLinesAreLeft() {
        Due.sentence(LINES, "on the lines from one to another one, in order, but those on which an example of the task was"
                + " shown");
        PatchbayScript script = new PatchbayScript();
        for (int line = 0; line < 8; line++) {
            Due.line(script, "abcdefgh".substring(line, line + 1));
        }
        Due.show(script, 0, 0, "A-A");
        Due.show(script, 0, 7, "H-H");
        Due.show(script, 0, 3, "D-D");
        Due.is("learn", script.learn(0), 19);
        Due.is("run on all", script.run(0, 0, 7, STOP), 5);
        texts(script, 0, "A-A", "B-B", "C-C", "D-D", "E-E", "F-F", "G-G", "H-H");
        Due.is("run on the first", script.run(0, 0, 0, STOP), 0);
        Due.is("run on the last", script.run(0, 7, 7, ASK), 0);
        Due.is("runs on no line are runs", script.runs(), 3);
        Due.is("none is asked", script.asked(), 0);
        texts(script, 0, "A-A", "B-B", "C-C", "D-D", "E-E", "F-F", "G-G", "H-H");
    }

    private static void exampleOfAnotherTask() {
        Due.sentence(LINES, "on the lines from one to another one, in order, but those on which an example of the task was"
                + " shown");
        PatchbayScript script = Stories.capitals("fg");
        Due.show(script, 1, 1, "hi");
        Due.is("run on the example of another task", script.run(0, 0, 1, STOP), 1);
        texts(script, 0, "ABCDE", "HI");
        Due.show(script, 0, 1, "jk");
        Due.is("run on its own", script.run(0, 0, 1, STOP), 0);
        texts(script, 0, "ABCDE", "jk");
    }

    /** The task 0 puts letters in capitals, and fails on the lines 2, 3 and 6; 0 and 4 have examples. */
    private static PatchbayScript failing() {
        PatchbayScript script = Stories.capitals("b", "1", "", "abcde", "f", "2", "g");
        Due.show(script, 0, 4, "ABCDE");
        Due.is("learn", script.learn(0), 6);
        return script;
    }

    private static void stops() {
        Due.sentence(LINES, "STOP ends the run there");
        PatchbayScript script = failing();
        Due.is("run on all", script.run(0, 0, 7, STOP), 1);
        texts(script, 0, "ABCDE", "B", "1", "", "ABCDE", "f", "2", "g");
        Due.is("from one that fails", script.run(0, 3, 7, STOP), 0);
        Due.is("from an example to one that fails", script.run(0, 4, 6, STOP), 1);
        Due.is("to one that fails", script.run(0, 5, 6, STOP), 1);
        Due.is("the last one", script.run(0, 7, 7, STOP), 1);
        texts(script, 0, "ABCDE", "B", "1", "", "ABCDE", "F", "2", "G");
        Due.is("none is asked", script.asked(), 0);
    }

    private static void skips() {
        Due.sentence(LINES, "SKIP leaves the line out");
        PatchbayScript script = failing();
        Due.is("run on all", script.run(0, 0, 7, SKIP), 3);
        texts(script, 0, "ABCDE", "B", "1", "", "ABCDE", "F", "2", "G");
        Due.is("none is asked", script.asked(), 0);
        Due.is("run on those that fail", script.run(0, 2, 3, SKIP), 0);
    }

    private static void asks() {
        Due.sentence(LINES, "ASK leaves it out and puts it among the lines that are asked");
        PatchbayScript script = failing();
        Due.is("run on all", script.run(0, 0, 7, ASK), 3);
        texts(script, 0, "ABCDE", "B", "1", "", "ABCDE", "F", "2", "G");
        Due.is("those that are asked", script.asked(), 1 << 2 | 1 << 3 | 1 << 6);
        Due.is("run to the first that fails", script.run(0, 1, 2, ASK), 1);
        Due.is("that one is asked", script.asked(), 1 << 2);
        Due.is("run from the last that fails", script.run(0, 6, 7, ASK), 1);
        Due.is("that one is asked", script.asked(), 1 << 6);
        Due.is("run between them", script.run(0, 4, 5, ASK), 1);
        Due.is("none is asked", script.asked(), 0);
    }

    private static void lastStep() {
        Due.sentence(LINES, "The others have the run as their last step.");
        PatchbayScript script = Stories.learnt("ab cd", "cd ab", "e f", "g");
        script.run(0, 1, 2, SKIP);
        Due.show(script, 1, 1, "h i");
        Due.show(script, 1, 2, "j k");
        script.run(0, 1, 2, SKIP);
        texts(script, 1, "i h", "k j");
        script.undo(0);
        texts(script, 1, "i h", "k j");
        script.undo(1);
        texts(script, 1, "h i", "j k");
    }

    private static void undoneAndDoneAgain() {
        Due.sentence(LINES, "A run is undone, and done again.");
        PatchbayScript script = Stories.capitals("fg", "1", "hi");
        script.run(0, 1, 3, SKIP);
        for (int i = 0; i < 3; i++) {
            Due.is("undo", script.undo(0), false);
            texts(script, 1, "fg", "1", "hi");
            Due.is("do again", script.undo(0), true);
            texts(script, 1, "FG", "1", "HI");
        }
    }

    private static void standingRuns() {
        Due.sentence(LINES, "A task that is standing runs on each line that comes, by SKIP, as a run of its own");
        PatchbayScript script = Stories.capitals("fg");
        script.stand(0, true);
        Due.line(script, "hi");
        Due.line(script, "1");
        Due.line(script, "jk");
        texts(script, 1, "fg", "HI", "1", "JK");
        Due.is("runs", script.runs(), 3);
        Due.is("none is asked", script.asked(), 0);
        script.undo(2);
        texts(script, 1, "fg", "HI", "1", "jk");
        script.undo(0);
        texts(script, 1, "fg", "hi", "1", "jk");
    }

    private static void standingNumbers() {
        Due.sentence(LINES, "these runs are numbered like others");
        PatchbayScript script = Stories.capitals("fg");
        script.run(0, 1, 1, SKIP);
        script.stand(0, true);
        Due.line(script, "hi");
        script.run(0, 1, 2, SKIP);
        Due.line(script, "jk");
        Due.is("runs", script.runs(), 4);
        script.undo(1);
        script.undo(2);
        texts(script, 1, "FG", "hi", "JK");
        script.undo(3);
        texts(script, 1, "FG", "hi", "jk");
        Due.failsIndex("a fifth run", () -> script.undo(4) ? 1 : 0);
    }
}
