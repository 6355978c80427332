/** Boundaries of the terms: examples, refusals, pins, the programs that count, and what is learnt of them. */
public final class EdgesTasks {
    private static final String ATOMS = "Atoms, programs";
    private static final int NONE = PatchbayScript.NONE;
    private static final int CONST = PatchbayScript.CONST;
    private static final int EACH = PatchbayScript.EACH;
    private static final int STOP = PatchbayScript.STOP;

    public static void main(String[] args) {
        threeTasks();
        fourExamples();
        fourRefusals();
        fourPins();
        makesWhatWasShown();
        whatALineWas();
        refusedOfOneText();
        pinsOfPlacesThatAreThere();
        firstFive();
        exactlyFive();
        firstThatIsFit();
        onlyThoseThatCount();
        oneForAllFirst();
        partedNoMore();
        partedAfterOthers();
        neitherEmpty();
        refusalsBindBoth();
        pinsBindBoth();
        partsOfOneAndThree();
        keepsWhatItHasLearnt();
        standsNoMore();
        Due.end();
    }

    private static void threeTasks() {
        Due.sentence(ATOMS, "There are the tasks 0 to 2.");
        PatchbayScript script = new PatchbayScript();
        script.line();
        for (int task = 0; task < 3; task++) {
            Due.is("an example", Due.show(script, task, 0, "abc".substring(task)), 1);
        }
        Due.is("the task 0", script.learn(0), 13);
        Due.is("the task 1, to which abc was shown to become bc", script.learn(1), 7);
        Due.is("the task 2, to which bc was shown to become c", script.learn(2), 7);
        for (int task : Twins.outside(0, 2)) {
            Due.failsIndex("count(" + task + ")", () -> script.count(task));
            Due.failsIndex("learn(" + task + ")", () -> script.learn(task));
        }
    }

    private static PatchbayScript withFiveLines() {
        PatchbayScript script = new PatchbayScript();
        for (int line = 0; line < 5; line++) {
            Due.line(script, "ab");
        }
        return script;
    }

    private static void fourExamples() {
        Due.sentence(ATOMS, "A task has examples, up to 4");
        PatchbayScript script = withFiveLines();
        for (int line = 0; line < 4; line++) {
            Due.is("an example", Due.show(script, 0, line, "AB"), line + 1);
            Due.is("learn", script.learn(0), 6);
        }
        script.type('x');
        Due.failsState("a fifth example", () -> script.show(0, 4));
        Due.is("learn", script.learn(0), 6);
    }

    private static void fourRefusals() {
        Due.sentence(ATOMS, "refusals, up to 4: a text, and a text that must not come of it");
        PatchbayScript script = withFiveLines();
        Due.show(script, 0, 0, "AB");
        script.learn(0);
        for (int line = 1; line <= 4; line++) {
            Due.is("a refusal", script.refuse(0, line), line);
        }
        Due.failsState("a fifth refusal", () -> script.refuse(0, 1));
    }

    private static void fourPins() {
        Due.sentence(ATOMS, "pins, up to one for each of the places 0 to 3 of a program: an atom");
        PatchbayScript script = withFiveLines();
        for (int place = 0; place < 4; place++) {
            Due.is("a pin", script.pin(0, place, PatchbayScript.CUT, 12, 15, 0), place + 1);
            Due.is("a pin there again", script.pin(0, place, PatchbayScript.CUT, 0, 3, 0), place + 1);
        }
        for (int place : Twins.outside(0, 3)) {
            Due.failsIndex("a pin at " + place, () -> script.pin(0, place, EACH, 0, 0, 0));
        }
        Due.show(script, 0, 0, "abababab");
        Due.is("learn", script.learn(0), 32);
    }

    /** "ab" to the last sign, and no sign more. */
    private static void makesWhatWasShown() {
        Due.sentence(ATOMS, "A program is fit for some of the examples, if it makes of each of them what was shown");
        PatchbayScript script = new PatchbayScript();
        Due.line(script, "ab");
        Due.line(script, "ab c");
        Due.show(script, 0, 0, "ab");
        Due.is("learn: from the first letters to the first ones", script.learn(0), 4);
        Due.show(script, 0, 1, "ab c");
        Due.is("learn: to the last ones", script.learn(0), 4);
        Due.is("its atom", Due.atom(script, 0, false, 0), "1 12 17 0 4");
        Due.line(script, "ab c");
        Due.show(script, 0, 2, "ab ");
        Due.is("learn: none makes all three", script.learn(0), NONE);
    }

    /** The line was "CD" by a run when it was shown; that the run is undone does not matter. */
    private static void whatALineWas() {
        Due.sentence(ATOMS, "what a line was when it was shown, and what was shown");
        PatchbayScript script = Stories.capitals("cd", "ef");
        script.run(0, 1, 1, STOP);
        Due.show(script, 1, 1, "C-D");
        Due.show(script, 2, 1, "C");
        script.undo(0);
        Due.is("learn of 'CD' to 'C-D', not of 'cd'", script.learn(1), 13);
        Due.is("learn of 'C-D' to 'C'", script.learn(2), 4);
        Due.is("by letters or capitals", Due.atom(script, 2, false, 0), "1 12 15 0 4");
        Due.is("of another line", Due.preview(script, 2, 2), "ef");
    }

    /** The text must be the same, and what is made, to the last sign. */
    private static void refusedOfOneText() {
        Due.sentence(ATOMS, "makes of the text of no refusal what was refused");
        PatchbayScript script = Stories.learnt("ab", "ab", "c d", "c e");
        Due.is("it makes c", Due.preview(script, 0, 1), "c");
        script.refuse(0, 1);
        Due.show(script, 1, 1, "q");
        script.learn(0);
        Due.is("the text is kept that the line had", Due.atom(script, 0, false, 0), "1 12 17 0 4");
        Due.is("what is learnt instead", Due.preview(script, 0, 2), "c e");
        PatchbayScript other = Stories.learnt("ab", "ab", "c", "c d");
        other.refuse(0, 1);
        Due.is("all five make that of 'c'", other.learn(0), NONE);
    }

    private static int learnWithPin(int place, int kind, int a, int b, int c) {
        PatchbayScript script = new PatchbayScript();
        script.line();
        Due.show(script, 0, 0, "ab");
        if (kind == CONST) {
            script.type('b');
        }
        script.pin(0, place, kind, a, b, c);
        return script.learn(0);
    }

    private static void pinsOfPlacesThatAreThere() {
        Due.sentence(ATOMS, "has, at each place that is pinned and that it has, the atom that is pinned there");
        Due.is("pinned at the only place", learnWithPin(0, EACH, 3, 2, 5), NONE);
        Due.is("pinned at the next place", learnWithPin(1, EACH, 3, 2, 5), 10);
        Due.is("pinned at the last place", learnWithPin(3, EACH, 3, 2, 5), 10);
        Due.is("another CONST at the only place", learnWithPin(0, CONST, 0, 0, 0), NONE);
        Due.is("the CONST of the second place, which the first program has not", learnWithPin(1, CONST, 0, 0, 0), 10);
        PatchbayScript script = new PatchbayScript();
        script.line();
        Due.show(script, 0, 0, "abcd");
        for (int place = 0; place < 4; place++) {
            script.type((char) ('a' + place));
            Due.is("pin the place " + place, script.pin(0, place, CONST, 0, 0, 0), place + 1);
        }
        Due.is("all four", script.learn(0), 28);
        Due.is("the last one", Due.atom(script, 0, false, 3), "0 100 0 0 7");
        script.type('e');
        script.pin(0, 3, CONST, 0, 0, 0);
        Due.is("another last one", script.learn(0), NONE);
    }

    private static int countOfNothing(String shown) {
        PatchbayScript script = new PatchbayScript();
        script.line();
        Due.show(script, 0, 0, shown);
        return script.count(0);
    }

    private static void firstFive() {
        Due.sentence(ATOMS, "The programs that count for some examples are the first 5, in the order, of all that make of"
                + " each of these what was shown, and have the pinned atoms.");
        Due.is("of one", countOfNothing("a"), 1);
        Due.is("of two", countOfNothing("ab"), 2);
        Due.is("of four", countOfNothing("abc"), 4);
        Due.is("of eight", countOfNothing("abcd"), 5);
        Due.is("of one again: four signs four times", countOfNothing("abcdefghijklmnop"), 1);
        Due.is("of none", countOfNothing("abcdefghijklmnopq"), 0);
    }

    /** "abcd" by one atom, by two in three ways, and by the pinned one: just five with "c" or "cd", six with "d". */
    private static void exactlyFive() {
        Due.sentence(ATOMS, "The programs that count for some examples are the first 5, in the order, of all that make of"
                + " each of these what was shown, and have the pinned atoms.");
        fiveOf("c", 28);
        fiveOf("cd", 24);
        fiveOf("d", 24);
    }

    private static void fiveOf(String third, int last) {
        PatchbayScript script = new PatchbayScript();
        script.line();
        Due.show(script, 0, 0, "abcd");
        Due.type(script, third);
        script.pin(0, 2, CONST, 0, 0, 0);
        int[] weights = {16, 20, 20, 20, last};
        Due.is("how many count with '" + third + "' at the place 2", script.count(0), 5);
        for (int i = 0; i < 5; i++) {
            Due.is("the weight of " + i, script.weight(0, i), weights[i]);
        }
        Due.failsIndex("a sixth one", () -> script.weight(0, 5));
    }

    /** Of "1,11" to ",": what stands between the digits, to the last or to the second ones, then by three ways. */
    private static PatchbayScript betweenDigits() {
        return Stories.learnt("1,11", ",", "2aBcD3", "2aB3cD4");
    }

    private static void firstThatIsFit() {
        Due.sentence(ATOMS, "What is learnt of these examples is the first of those that count which is fit; without such a"
                + " one there is none.");
        PatchbayScript script = betweenDigits();
        Due.is("the first", Due.atom(script, 0, false, 0), "1 9 8 0 4");
        Due.is("refuse what it makes", script.refuse(0, 2), 1);
        Due.is("the second", script.learn(0), 5);
        Due.is("its atom", Due.atom(script, 0, false, 0), "1 9 7 0 5");
        Due.is("refuse what it makes", script.refuse(0, 1), 2);
        Due.is("the third", script.learn(0), 6);
        Due.is("its atom", Due.atom(script, 0, false, 0), "1 9 8 1 6");
        Due.is("refuse what it makes", script.refuse(0, 1), 3);
        Due.is("the fourth", script.learn(0), 6);
        Due.is("its atom", Due.atom(script, 0, false, 0), "1 9 8 2 6");
        Due.is("refuse what it makes", script.refuse(0, 1), 4);
        Due.is("the fifth", script.learn(0), 6);
        Due.is("its atom", Due.atom(script, 0, false, 0), "1 9 8 3 6");
        Due.is("five count all the same", script.count(0), 5);
        Due.failsState("a fifth refusal", () -> script.refuse(0, 1));
    }

    /** One refusal keeps out all that count; others would be fit. */
    private static void onlyThoseThatCount() {
        Due.sentence(ATOMS, "What is learnt of these examples is the first of those that count which is fit; without such a"
                + " one there is none.");
        PatchbayScript script = Stories.learnt("1,11", ",", "2.3");
        Due.is("refuse what all five make", script.refuse(0, 1), 1);
        Due.is("a CONST would be fit, but is not among the first five", script.learn(0), NONE);
        Due.is("five count", script.count(0), 5);
        PatchbayScript other = Stories.learnt("", "abc", "");
        Due.is("refuse what all four make", other.refuse(0, 1), 1);
        Due.is("none is left", other.learn(0), NONE);
        Due.is("four count", other.count(0), 4);
    }

    /** One for both weighs 10, from the place 1 to the last but one; letters and digits, by a condition, 8. */
    private static void oneForAllFirst() {
        Due.sentence(ATOMS, "If there is one for all examples, it is what the task has learnt.");
        PatchbayScript script = new PatchbayScript();
        Due.line(script, "-ab-");
        Due.line(script, "a12b");
        Due.line(script, "cd-e");
        Due.show(script, 0, 0, "ab");
        Due.show(script, 0, 1, "12");
        Due.is("learn", script.learn(0), 10);
        Due.is("it is not parted", script.condition(0), NONE);
        Due.is("its atom", Due.atom(script, 0, false, 0), "1 1 4 0 10");
        Due.show(script, 0, 2, "cd");
        Due.is("learn of three", script.learn(0), 8);
        Due.is("it is parted", script.condition(0), 0);
    }

    /** With a pin at the place 1 two programs of one atom are learnt, without it one of two atoms. */
    private static void partedNoMore() {
        Due.sentence(ATOMS, "If there is one for all examples, it is what the task has learnt.");
        PatchbayScript script = new PatchbayScript();
        Due.line(script, "1");
        Due.line(script, "a");
        Due.show(script, 0, 0, "1x");
        Due.show(script, 0, 1, "ax");
        for (int i = 0; i < 2; i++) {
            script.pin(0, 1, EACH, 0, 0, 0);
            Due.is("learn with the pin", script.learn(0), 20);
            Due.is("it is parted", script.condition(0), 0);
            script.pin(0, 1, NONE, 0, 0, 0);
            Due.is("learn without the pin", script.learn(0), 11);
            Due.is("it is not parted", script.condition(0), NONE);
            Due.is("there is no second program", script.atomAt(0, true, 0, 0), NONE);
            Due.is("of 'ax', which the line is by now", Due.preview(script, 0, 1), "axx");
        }
    }

    /** What was asked of another task between counting and learning does not matter. */
    private static void partedAfterOthers() {
        Due.sentence(ATOMS, "for both there has to be one that is learnt, each with all refusals and pins");
        PatchbayScript script = new PatchbayScript();
        Due.line(script, "1");
        Due.line(script, "a");
        Due.show(script, 0, 0, "x");
        Due.show(script, 0, 1, "y");
        Due.line(script, "b2");
        Due.line(script, "3 c");
        Due.show(script, 1, 2, "b");
        Due.show(script, 1, 3, "3");
        Due.is("none makes both", script.count(0), 0);
        Due.is("some make both of the other task", script.count(1) > 0, true);
        Due.is("learn: parted", script.learn(0), 14);
        Due.is("the first program", Due.atom(script, 0, false, 0), "0 120 0 0 7");
        Due.is("the second program", Due.atom(script, 0, true, 0), "0 121 0 0 7");
    }

    private static void neitherEmpty() {
        Due.sentence(ATOMS, "A condition parts the examples into those for which it holds, and others; neither may be empty");
        PatchbayScript script = new PatchbayScript();
        Due.line(script, "aB1 ");
        Due.line(script, "cD2 ");
        Due.show(script, 0, 0, "x");
        Due.show(script, 0, 1, "y");
        Due.is("all conditions hold for both, or for neither", script.learn(0), NONE);
        Due.show(script, 1, 0, "abcdefghijklmnopqrst");
        Due.is("one example can't be parted", script.learn(1), NONE);
        Due.line(script, "cD2");
        Due.show(script, 0, 2, "y");
        Due.is("two that are alike and one that is not: the two are unlike each other", script.learn(0), NONE);
        Due.show(script, 2, 1, "x");
        Due.show(script, 2, 2, "z");
        Due.is("as they are by now, x and y: nothing parts them", script.learn(2), NONE);
    }

    /** The text of the refusal goes to the one program by the condition; the other one is bound all the same. */
    private static void refusalsBindBoth() {
        Due.sentence(ATOMS, "for both there has to be one that is learnt, each with all refusals and pins");
        PatchbayScript script = new PatchbayScript();
        String[] texts = {"1", "a", "b c2", "- -", ".", "bc"};
        for (String text : texts) {
            Due.line(script, text);
        }
        Due.show(script, 1, 1, "a");
        Due.is("learn to take letters", script.learn(1), 4);
        Due.is("refuse b of 'b c2'", script.refuse(1, 2), 1);
        Due.show(script, 1, 0, "x");
        Due.is("learn x where there are digits, letters elsewhere", script.learn(1), 11);
        Due.is("the condition", script.condition(1), 0);
        Due.is("the second program takes all letters", Due.atom(script, 1, true, 0), "1 12 17 0 4");

        Due.show(script, 2, 3, "-");
        Due.is("learn to take the first row of signs", script.learn(2), 4);
        Due.is("refuse all of 'bc'", script.refuse(2, 5), 1);
        Due.show(script, 2, 4, "x");
        Due.is("learn a row of signs where there are two, x elsewhere", script.learn(2), 12);
        Due.is("the condition", script.condition(2), 10);
        Due.is("the first program fails where there is one row", Due.atom(script, 2, false, 0), "1 25 29 0 5");
    }

    private static void pinsBindBoth() {
        Due.sentence(ATOMS, "for both there has to be one that is learnt, each with all refusals and pins");
        PatchbayScript script = new PatchbayScript();
        Due.line(script, "1");
        Due.line(script, "a");
        Due.show(script, 0, 0, "x1");
        Due.show(script, 0, 1, "x-a");
        Due.is("learn without pins", script.learn(0), 23);
        script.type('x');
        script.pin(0, 0, CONST, 0, 0, 0);
        Due.is("learn with a pin", script.learn(0), 28);
        Due.is("the first program has it", Due.atom(script, 0, false, 0), "0 120 0 0 7");
        Due.is("and a CUT", Due.atom(script, 0, false, 1), "1 6 9 0 4");
        Due.is("the second program has it", Due.atom(script, 0, true, 0), "0 120 0 0 7");
        Due.is("and a CONST", Due.atom(script, 0, true, 1), "0 45 97 0 10");
        Due.type(script, "x1");
        script.pin(0, 0, CONST, 0, 0, 0);
        Due.is("a pin that the second program can't have", script.learn(0), NONE);
        Due.type(script, "x-a");
        script.pin(0, 0, CONST, 0, 0, 0);
        Due.is("a pin that the first program can't have", script.learn(0), NONE);
        script.pin(0, 0, NONE, 0, 0, 0);
        Due.is("learn without pins again", script.learn(0), 23);
    }

    private static void partsOfOneAndThree() {
        Due.sentence(ATOMS, "A condition parts the examples into those for which it holds, and others; neither may be empty");
        for (int digits = 1; digits <= 3; digits++) {
            PatchbayScript script = new PatchbayScript();
            for (int line = 0; line < 4; line++) {
                boolean isDigit = line < digits;
                Due.line(script, "" + (char) ((isDigit ? '1' : 'a') + line));
                Due.show(script, 0, line, isDigit ? "x" : "y");
            }
            Due.is("learn of " + digits + " digits among four", script.learn(0), 14);
            Due.is("the condition", script.condition(0), 0);
        }
    }

    private static void keepsWhatItHasLearnt() {
        Due.sentence(ATOMS, "A task is learnt when this is told, and keeps what it has learnt until then");
        PatchbayScript script = Stories.capitals("fg", "h");
        Due.show(script, 0, 2, "x");
        Due.is("after an example", Due.preview(script, 0, 1), "FG");
        script.refuse(0, 1);
        Due.is("after a refusal", Due.preview(script, 0, 1), "FG");
        script.pin(0, 0, EACH, 0, 0, 0);
        Due.is("after a pin", Due.preview(script, 0, 1), "FG");
        script.count(0);
        script.question(0);
        Due.is("after counting", Due.atom(script, 0, false, 0), "1 12 15 1 6");
        Due.is("learn", script.learn(0), NONE);
        Due.is("after learning", Due.preview(script, 0, 1), "?");
        script.pin(0, 0, NONE, 0, 0, 0);
        Due.is("nothing is kept until learning too", Due.preview(script, 0, 1), "?");
    }

    private static void standsNoMore() {
        Due.sentence(ATOMS, "one that has learnt nothing does not stand any more");
        PatchbayScript script = Stories.capitals("12");
        script.stand(0, true);
        script.pin(0, 0, EACH, 0, 0, 0);
        Due.line(script, "fg");
        Due.is("it stands before learning", Due.text(script, 2), "FG");
        Due.is("learn nothing", script.learn(0), NONE);
        Due.line(script, "hi");
        Due.is("it does not run", Due.text(script, 3), "hi");
        Due.is("no run", script.runs(), 1);
        script.pin(0, 0, NONE, 0, 0, 0);
        Due.is("learn something", script.learn(0), 6);
        Due.line(script, "jk");
        Due.is("it does not stand again by itself", Due.text(script, 4), "jk");
        Due.is("it was not standing", script.stand(0, true), false);
        Due.is("learn the same again", script.learn(0), 6);
        Due.line(script, "lm");
        Due.is("it goes on standing", Due.text(script, 5), "LM");
    }
}
