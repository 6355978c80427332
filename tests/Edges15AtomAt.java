/** Promise 15, its boundaries: atomAt. */
public final class Edges15AtomAt {
    private static final String PROMISE = "Promise 15";
    private static final String WHAT = "`what`: 0 its kind; 1, 2, 3 what is called a, b, c for pin(), or the code as a char"
            + " of the sign at the place 0, 1, 2 of a CONST, 0 if it has not so many; 4 its weight";
    private static final String NO_ATOM = "-1 -1 -1 -1 -1";
    private static final int NONE = PatchbayScript.NONE;

    public static void main(String[] args) {
        consts();
        cuts();
        eaches();
        places();
        noSuchAtom();
        nothingLearnt();
        bothPrograms();
        firstAndLastTask();
        noSuchTask();
        placeBelowZero();
        whatOutOfRange();
        severalExceptions();
        Due.end();
    }

    private static void consts() {
        Due.sentence(PROMISE, WHAT);
        Due.is("one sign", Due.atom(Stories.learnt("", "z"), 0, false, 0), "0 122 0 0 7");
        Due.is("two signs", Due.atom(Stories.learnt("", " A"), 0, false, 0), "0 32 65 0 10");
        Due.is("three signs", Due.atom(Stories.learnt("", "/9,"), 0, false, 0), "0 47 57 44 13");
        Due.is("four signs", Due.atom(Stories.learnt("", "-.0Z"), 0, false, 0), "0 45 46 48 16");
    }

    private static void cuts() {
        Due.sentence(PROMISE, WHAT);
        Due.is("the least numbers", Due.atom(Stories.pinned(PatchbayScript.CUT, 0, 1, 0, "ab", "a"), 0, false, 0),
                "1 0 1 0 9");
        Due.is("the greatest numbers", Due.atom(Stories.pinned(PatchbayScript.CUT, 28, 29, 3, "a b cD", " cd"), 0, false,
                0), "1 28 29 3 7");
        Due.is("the greatest first spot", Due.atom(Stories.pinned(PatchbayScript.CUT, 29, 3, 0, "a ", " "), 0, false, 0),
                "1 29 3 0 6");
    }

    private static void eaches() {
        Due.sentence(PROMISE, WHAT);
        Due.is("the least numbers", Due.atom(Stories.pinned(PatchbayScript.EACH, 0, 0, 0, "1a2", "12"), 0, false, 0),
                "2 0 0 0 6");
        Due.is("the greatest numbers", Due.atom(Stories.pinned(PatchbayScript.EACH, 3, 2, 5, "ab c", "b/c"), 0, false, 0),
                "2 3 2 5 8");
    }

    private static void places() {
        Due.sentence(PROMISE, "`place`: 0 for the first atom");
        PatchbayScript script = Stories.learnt("", "abcdefghijklmnop");
        Due.is("the first atom", Due.atom(script, 0, false, 0), "0 97 98 99 16");
        Due.is("the second atom", Due.atom(script, 0, false, 1), "0 101 102 103 16");
        Due.is("the third atom", Due.atom(script, 0, false, 2), "0 105 106 107 16");
        Due.is("the fourth atom", Due.atom(script, 0, false, 3), "0 109 110 111 16");
    }

    private static void noSuchAtom() {
        Due.sentence(PROMISE, "Returns the number; NONE if there is no such atom.");
        PatchbayScript four = Stories.learnt("", "abcdefghijklmnop");
        PatchbayScript one = Stories.learnt("", "abcd");
        PatchbayScript two = Stories.learnt("", "abcde");
        for (int place : new int[] {4, 5, 8, Integer.MAX_VALUE - 1, Integer.MAX_VALUE}) {
            Due.is("the place " + place + " of four", Due.atom(four, 0, false, place), NO_ATOM);
        }
        Due.is("behind one", Due.atom(one, 0, false, 1), NO_ATOM);
        Due.is("behind two", Due.atom(two, 0, false, 2), NO_ATOM);
        Due.is("the last place, behind two", Due.atom(two, 0, false, 3), NO_ATOM);
        Due.is("of no second program", Due.atom(four, 0, true, 0), NO_ATOM);
        Due.is("far behind no second program", Due.atom(four, 0, true, Integer.MAX_VALUE), NO_ATOM);
    }

    /** A second program that was learnt before does not show. */
    private static void nothingLearnt() {
        Due.sentence(PROMISE, "Returns the number; NONE if there is no such atom.");
        PatchbayScript script = parted();
        script.pin(1, 0, PatchbayScript.EACH, 0, 0, 0);
        Due.is("learn nothing", script.learn(1), NONE);
        Due.is("no first atom", Due.atom(script, 1, false, 0), NO_ATOM);
        Due.is("no first atom of the second program", Due.atom(script, 1, true, 0), NO_ATOM);
        PatchbayScript other = Stories.learnt("1", "x", "a", "b");
        Due.show(other, 0, 1, "y");
        Due.is("learn two", other.learn(0), 14);
        other.type('z');
        other.pin(0, 0, PatchbayScript.CONST, 0, 0, 0);
        Due.show(other, 1, 2, "b");
        Due.is("learn nothing", other.learn(0), NONE);
        Due.is("learn one", other.learn(1), 4);
        Due.is("a second program of one", Due.atom(other, 1, true, 0), NO_ATOM);
        Due.is("a new task", Due.atom(other, 2, false, 0), NO_ATOM);
        Due.is("the second program of a new task", Due.atom(other, 2, true, 0), NO_ATOM);
    }

    private static PatchbayScript parted() {
        PatchbayScript script = new PatchbayScript();
        Due.line(script, "1");
        Due.line(script, "a");
        Due.show(script, 1, 0, "x");
        Due.show(script, 1, 1, "bcdef");
        Due.is("learn", script.learn(1), 30);
        return script;
    }

    private static void bothPrograms() {
        Due.sentence(PROMISE, "`isElse`: whether it is of the second program, for texts for which the condition does not"
                + " hold");
        PatchbayScript script = parted();
        Due.is("the first program", Due.atom(script, 1, false, 0), "0 120 0 0 7");
        Due.is("behind it", Due.atom(script, 1, false, 1), NO_ATOM);
        Due.is("the second program", Due.atom(script, 1, true, 0), "0 98 0 0 7");
        Due.is("its second atom", Due.atom(script, 1, true, 1), "0 99 100 101 16");
        Due.is("behind it", Due.atom(script, 1, true, 2), NO_ATOM);
    }

    private static void firstAndLastTask() {
        Due.sentence(PROMISE, "`task`: 0 to 2");
        PatchbayScript script = new PatchbayScript();
        script.line();
        Due.show(script, 0, 0, "a");
        Due.line(script, "");
        Due.show(script, 2, 1, "b");
        script.learn(0);
        script.learn(2);
        Due.is("of the task 0", Due.atom(script, 0, false, 0), "0 97 0 0 7");
        Due.is("of the task 1", Due.atom(script, 1, false, 0), NO_ATOM);
        Due.is("of the task 2", Due.atom(script, 2, false, 0), "0 98 0 0 7");
    }

    private static void noSuchTask() {
        Due.sentence(PROMISE, "Throws `IndexOutOfBoundsException` if there is no such task, or place is below 0");
        for (int task : Twins.outside(0, 2)) {
            Twins.failIndex("atomAt(" + task + ", false, 0, 0)", Stories::rich, script -> script.atomAt(task, false, 0, 0));
            Twins.failIndex("atomAt(" + task + ", true, 0, 4)", Stories::rich, script -> script.atomAt(task, true, 0, 4));
        }
    }

    private static void placeBelowZero() {
        Due.sentence(PROMISE, "Throws `IndexOutOfBoundsException` if there is no such task, or place is below 0");
        for (int place : new int[] {Integer.MIN_VALUE, -2, -1}) {
            Twins.failIndex("atomAt(0, false, " + place + ", 0)", Stories::rich,
                    script -> script.atomAt(0, false, place, 0));
            Twins.failIndex("atomAt(1, true, " + place + ", 0) of nothing", Stories::rich,
                    script -> script.atomAt(1, true, place, 0));
        }
    }

    private static void whatOutOfRange() {
        Due.sentence(PROMISE, "Throws `IllegalArgumentException` if what is out of range");
        for (int what : Twins.outside(0, 4)) {
            Twins.failArgument("atomAt(0, false, 0, " + what + ")", Stories::rich,
                    script -> script.atomAt(0, false, 0, what));
            Twins.failArgument("atomAt(0, false, MAX, " + what + ")", Stories::rich,
                    script -> script.atomAt(0, false, Integer.MAX_VALUE, what));
            Twins.failArgument("atomAt(0, true, 0, " + what + ") of one program", Stories::rich,
                    script -> script.atomAt(0, true, 0, what));
            Twins.failArgument("atomAt(1, false, 0, " + what + ") of nothing", Stories::rich,
                    script -> script.atomAt(1, false, 0, what));
        }
    }

    private static void severalExceptions() {
        Due.sentence("Terms", "if several exceptions apply, the one that its @throws lines name first is thrown");
        for (int what : Twins.outside(0, 4)) {
            Twins.failIndex("atomAt(3, false, 0, " + what + ")", Stories::rich,
                    script -> script.atomAt(3, false, 0, what));
            Twins.failIndex("atomAt(-1, false, 0, " + what + ")", Stories::rich,
                    script -> script.atomAt(-1, false, 0, what));
            Twins.failIndex("atomAt(0, false, -1, " + what + ")", Stories::rich,
                    script -> script.atomAt(0, false, -1, what));
        }
    }
}
