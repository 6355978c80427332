/** Promise 9, its boundaries: pin. */
public final class Edges09Pin {
    private static final String PROMISE = "Promise 9";
    private static final int NONE = PatchbayScript.NONE;
    private static final int CONST = PatchbayScript.CONST;
    private static final int CUT = PatchbayScript.CUT;
    private static final int EACH = PatchbayScript.EACH;
    private static final int MIN = Integer.MIN_VALUE;
    private static final int MAX = Integer.MAX_VALUE;

    public static void main(String[] args) {
        inPlaceOfOne();
        draftOfAConst();
        othersLeaveTheDraft();
        howMany();
        firstAndLastTaskAndPlace();
        firstAndLastKind();
        outermostCuts();
        outermostEaches();
        lastWayAndMark();
        whatDoesNotMatter();
        noSuchTask();
        noSuchPlace();
        noSuchKind();
        wrongCuts();
        wrongEaches();
        wrongConsts();
        severalExceptions();
        Due.end();
    }

    private static PatchbayScript withExample() {
        PatchbayScript script = new PatchbayScript();
        Due.line(script, "ab");
        Due.show(script, 0, 0, "ab");
        return script;
    }

    private static void inPlaceOfOne() {
        Due.sentence(PROMISE, "Pins an atom, in place of one that is pinned at its place.");
        PatchbayScript script = withExample();
        script.pin(0, 0, CUT, 0, 3, 0);
        Due.is("with a CUT", script.weight(0, 0), 8);
        script.pin(0, 0, EACH, 1, 0, 1);
        Due.is("with an EACH in its place", script.weight(0, 0), 7);
        Due.type(script, "ab");
        script.pin(0, 0, CONST, 0, 0, 0);
        Due.is("with a CONST in its place", script.weight(0, 0), 10);
        Due.type(script, "c");
        script.pin(0, 0, CONST, 0, 0, 0);
        Due.is("with another CONST in its place", script.count(0), 0);
        script.pin(0, 0, NONE, 0, 0, 0);
        Due.is("with none", script.weight(0, 0), 4);
    }

    private static void draftOfAConst() {
        Due.sentence(PROMISE, "The signs of a CONST are the draft, which is empty then.");
        PatchbayScript script = withExample();
        Due.type(script, "ab");
        script.pin(0, 0, CONST, 0, 0, 0);
        Due.is("learn", script.learn(0), 10);
        Due.is("its signs", Due.atom(script, 0, false, 0), "0 97 98 0 10");
        Due.is("the next sign", script.type('c'), 1);
        script.pin(1, 0, CONST, 0, 0, 0);
        Due.failsState("a CONST of the draft again", () -> script.pin(1, 1, CONST, 0, 0, 0));
    }

    private static void othersLeaveTheDraft() {
        Due.sentence(PROMISE, "The signs of a CONST are the draft, which is empty then.");
        PatchbayScript script = withExample();
        script.type('x');
        script.pin(0, 0, CUT, 0, 3, 0);
        Due.is("behind a CUT", script.type('y'), 2);
        script.pin(0, 0, EACH, 1, 0, 1);
        Due.is("behind an EACH", script.type('z'), 3);
        script.pin(0, 0, NONE, 0, 0, 0);
        script.line();
        Due.is("the draft", Due.text(script, 1), "xyz");
    }

    private static void howMany() {
        Due.sentence(PROMISE, "Returns how many are pinned then.");
        PatchbayScript script = new PatchbayScript();
        Due.is("none at a place without one", script.pin(0, 2, NONE, 0, 0, 0), 0);
        int[] places = {3, 0, 2, 1};
        for (int i = 0; i < 4; i++) {
            Due.is("pin at " + places[i], script.pin(0, places[i], CUT, 0, 3, 0), i + 1);
            Due.is("pin there again", script.pin(0, places[i], EACH, 0, 0, 0), i + 1);
        }
        Due.is("another task", script.pin(1, 3, EACH, 0, 0, 0), 1);
        for (int i = 0; i < 4; i++) {
            Due.is("none at " + places[i], script.pin(0, places[i], NONE, 0, 0, 0), 3 - i);
            Due.is("none there again", script.pin(0, places[i], NONE, 0, 0, 0), 3 - i);
        }
        Due.is("the other task", script.pin(1, 0, NONE, 0, 0, 0), 1);
    }

    private static void firstAndLastTaskAndPlace() {
        Due.sentence(PROMISE, "`place`: 0 to 3");
        PatchbayScript script = new PatchbayScript();
        for (int task = 0; task < 3; task++) {
            Due.is("pin(" + task + ", 0, ..)", script.pin(task, 0, EACH, 0, 0, 0), 1);
            Due.is("pin(" + task + ", 3, ..)", script.pin(task, 3, EACH, 0, 0, 0), 2);
        }
        script.line();
        Due.show(script, 2, 0, "abcd");
        script.pin(2, 0, NONE, 0, 0, 0);
        Due.is("with an EACH at the place 3: those of fewer atoms", script.count(2), 5);
        script.type('a');
        script.pin(2, 0, CONST, 0, 0, 0);
        Due.is("those that begin with a", script.count(2), 3);
        script.type('d');
        script.pin(2, 3, CONST, 0, 0, 0);
        Due.is("and with d at the place 3, if they have it", script.count(2), 4);
        Due.is("the one that has it", script.weight(2, 3), 28);
    }

    private static void firstAndLastKind() {
        Due.sentence(PROMISE, "`kind`: CONST to EACH, or NONE to pin none");
        PatchbayScript script = new PatchbayScript();
        Due.is("the kind 2", script.pin(0, 0, 2, 0, 0, 0), 1);
        Due.is("the kind 1", script.pin(0, 1, 1, 0, 0, 0), 2);
        script.type('a');
        Due.is("the kind 0", script.pin(0, 2, 0, 0, 0, 0), 3);
        Due.is("the kind -1", script.pin(0, 0, -1, 0, 0, 0), 2);
    }

    private static void outermostCuts() {
        Due.sentence(PROMISE, "`a`: the first spot of a CUT (0 to 29), the class of an EACH (0 to 3); for others it does not"
                + " matter, here and below");
        PatchbayScript script = new PatchbayScript();
        int[][] cuts = {{0, 0, 0}, {29, 0, 0}, {0, 29, 0}, {0, 0, 3}, {29, 29, 3}};
        for (int[] cut : cuts) {
            Due.is("a CUT", script.pin(0, 1, CUT, cut[0], cut[1], cut[2]), 1);
        }
        PatchbayScript last = Stories.pinned(CUT, 28, 29, 3, "a b cD", " cd");
        Due.is("learn, from the second end to the last one", last.learn(0), 7);
        Due.is("its atom", Due.atom(last, 0, false, 0), "1 28 29 3 7");
        PatchbayScript first = Stories.pinned(CUT, 0, 29, 0, "a b", "a b");
        Due.is("learn", first.learn(0), 6);
        Due.is("its atom", Due.atom(first, 0, false, 0), "1 0 29 0 6");
    }

    private static void outermostEaches() {
        Due.sentence(PROMISE, "`b`: the second spot of a CUT, the part of an EACH (0 to 2)");
        PatchbayScript script = new PatchbayScript();
        int[][] eaches = {{0, 0, 0}, {3, 0, 0}, {0, 2, 0}, {0, 0, 5}, {3, 2, 5}};
        for (int[] each : eaches) {
            Due.is("an EACH", script.pin(0, 1, EACH, each[0], each[1], each[2]), 1);
        }
        PatchbayScript learnt = Stories.pinned(EACH, 3, 2, 5, "ab cd", "b/d");
        Due.is("learn", learnt.learn(0), 8);
        Due.is("its atom", Due.atom(learnt, 0, false, 0), "2 3 2 5 8");
        Due.is("the first EACH", Due.atom(Stories.pinned(EACH, 0, 0, 0, "1a2", "12"), 0, false, 0), "2 0 0 0 6");
    }

    private static void lastWayAndMark() {
        Due.sentence(PROMISE, "`c`: the way of a CUT (0 to 3), the mark of an EACH (0 to 5)");
        PatchbayScript script = new PatchbayScript();
        Due.failsArgument("a CUT by the way 4", () -> script.pin(0, 0, CUT, 0, 3, 4));
        Due.failsArgument("a CUT by the way 5, as if it were a mark", () -> script.pin(0, 0, CUT, 0, 3, 5));
        Due.failsArgument("an EACH of the class 4, as if it were a spot", () -> script.pin(0, 0, EACH, 4, 0, 0));
        Due.failsArgument("an EACH of the part 3, as if it were a spot", () -> script.pin(0, 0, EACH, 0, 3, 0));
        Due.is("a CUT by the way 3", script.pin(0, 0, CUT, 0, 3, 3), 1);
        Due.is("an EACH with the mark 5", script.pin(0, 0, EACH, 0, 0, 5), 1);
    }

    private static void whatDoesNotMatter() {
        Due.sentence(PROMISE, "for others it does not matter, here and below");
        int[] wild = {MIN, -1, 30, MAX};
        for (int a : wild) {
            for (int b : wild) {
                PatchbayScript script = withExample();
                script.type('a');
                Due.is("a CONST with a, b, c", script.pin(0, 0, CONST, a, b, a), 1);
                script.learn(0);
                Due.is("the CONST", Due.atom(script, 0, false, 0), "0 97 0 0 7");
                Due.is("NONE with a, b, c", script.pin(0, 0, NONE, a, b, b), 0);
            }
        }
    }

    private static void noSuchTask() {
        Due.sentence(PROMISE, "Throws `IndexOutOfBoundsException` if there is no such task, or place is out of range");
        for (int task : Twins.outside(0, 2)) {
            for (int kind = NONE; kind <= EACH; kind++) {
                int of = kind;
                Twins.failIndex("pin(" + task + ", 0, " + kind + ", ..)", Stories::rich,
                        script -> script.pin(task, 0, of, 0, 0, 0));
            }
        }
    }

    private static void noSuchPlace() {
        Due.sentence(PROMISE, "Throws `IndexOutOfBoundsException` if there is no such task, or place is out of range");
        for (int place : Twins.outside(0, 3)) {
            for (int kind = NONE; kind <= EACH; kind++) {
                int of = kind;
                Twins.failIndex("pin(1, " + place + ", " + kind + ", ..)", Stories::rich,
                        script -> script.pin(1, place, of, 0, 0, 0));
            }
        }
    }

    private static void noSuchKind() {
        Due.sentence(PROMISE, "Throws `IllegalArgumentException` if kind, a, b or c is out of range and matters");
        for (int kind : Twins.outside(NONE, EACH)) {
            Twins.failArgument("pin(1, 2, " + kind + ", ..)", Stories::rich, script -> script.pin(1, 2, kind, 0, 0, 0));
        }
    }

    private static void wrong(int kind, int[] last) {
        for (int which = 0; which < 3; which++) {
            for (int number : Twins.outside(0, last[which])) {
                int[] abc = new int[3];
                abc[which] = number;
                Twins.failArgument("pin(1, 2, " + kind + ", " + abc[0] + ", " + abc[1] + ", " + abc[2] + ")",
                        Stories::rich, script -> script.pin(1, 2, kind, abc[0], abc[1], abc[2]));
            }
        }
    }

    private static void wrongCuts() {
        Due.sentence(PROMISE, "Throws `IllegalArgumentException` if kind, a, b or c is out of range and matters");
        wrong(CUT, new int[] {29, 29, 3});
    }

    private static void wrongEaches() {
        Due.sentence(PROMISE, "Throws `IllegalArgumentException` if kind, a, b or c is out of range and matters");
        wrong(EACH, new int[] {3, 2, 5});
    }

    private static void wrongConsts() {
        Due.sentence(PROMISE, "Throws `IllegalStateException` if it is a CONST, and the draft is empty or has more than 4"
                + " signs");
        String full = "abcdefghij0123456789";
        for (int size = 0; size <= 20; size++) {
            String draft = full.substring(0, size);
            if (size >= 1 && size <= 4) {
                PatchbayScript script = new PatchbayScript();
                Due.type(script, draft);
                Due.is("a CONST of " + size, script.pin(0, 0, CONST, 0, 0, 0), 1);
                Due.is("the next sign", script.type('a'), 1);
            } else {
                Twins.failState("a CONST of " + size, script -> Stories.withDraft(script, draft),
                        script -> script.pin(1, 2, CONST, 0, 0, 0));
            }
        }
        PatchbayScript script = new PatchbayScript();
        for (int kind : new int[] {NONE, CUT, EACH}) {
            Due.is("the empty draft does not matter for " + kind, script.pin(0, 0, kind, 0, 0, 0), kind == NONE ? 0 : 1);
        }
    }

    private static void severalExceptions() {
        Due.sentence("Terms", "if several exceptions apply, the one that its @throws lines name first is thrown");
        for (String draft : new String[] {"", "abcde"}) {
            Twins.Story story = script -> Stories.withDraft(script, draft);
            Twins.failIndex("a wrong CONST of no task", story, script -> script.pin(3, 0, CONST, 0, 0, 0));
            Twins.failIndex("a wrong CONST at no place", story, script -> script.pin(1, 4, CONST, 0, 0, 0));
            Twins.failIndex("a wrong kind of no task", story, script -> script.pin(-1, 0, 3, 0, 0, 0));
            Twins.failIndex("a wrong kind at no place", story, script -> script.pin(1, -1, MIN, 0, 0, 0));
            Twins.failIndex("a wrong CUT at no place", story, script -> script.pin(1, MAX, CUT, 30, 0, 0));
            Twins.failIndex("a wrong EACH of no task", story, script -> script.pin(MIN, 2, EACH, 0, 3, 0));
            Twins.failArgument("a wrong kind", story, script -> script.pin(1, 2, 3, MAX, MAX, MAX));
            Twins.failArgument("a wrong CUT", story, script -> script.pin(1, 2, CUT, 30, 30, 4));
        }
    }
}
