/** Promise 9: pin. */
public final class Promise09Pin {
    private static final int NONE = PatchbayScript.NONE;
    private static final int CONST = PatchbayScript.CONST;
    private static final int CUT = PatchbayScript.CUT;
    private static final int EACH = PatchbayScript.EACH;

    public static void main(String[] args) {
        bindsPlaces();
        bindsOnlyPlacesThatAreThere();
        pinsEachKind();
        countsPins();
        wrongCalls();
        wrongDrafts();
        Due.end();
    }

    private static void bindsPlaces() {
        PatchbayScript script = new PatchbayScript();
        Due.line(script, "Ada Byron");
        Due.show(script, 0, 0, "Byron A.");
        Due.is("learn", script.learn(0), 17);
        Due.is("pin a CUT that is longer", script.pin(0, 0, CUT, 14, 3, 0), 1);
        Due.is("learn with it", script.learn(0), 19);
        Due.is("the pinned atom", Due.atom(script, 0, false, 0), "1 14 3 0 6");
        Due.is("pin an EACH behind", script.pin(0, 1, EACH, 2, 1, 0), 2);
        Due.is("learn with both: nothing", script.learn(0), NONE);
        Due.is("how many count", script.count(0), 0);
        Due.is("pin nothing there", script.pin(0, 1, NONE, 99, -99, 99), 1);
        Due.is("learn again", script.learn(0), 19);
        Due.type(script, "B");
        Due.is("pin a CONST in its place", script.pin(0, 0, CONST, -1, 99, 99), 1);
        Due.is("learn with the CONST", script.learn(0), 24);
        Due.is("the CONST", Due.atom(script, 0, false, 0), "0 66 0 0 7");
        Due.is("other tasks have none", script.pin(1, 3, NONE, 0, 0, 0), 0);
    }

    private static void bindsOnlyPlacesThatAreThere() {
        PatchbayScript script = new PatchbayScript();
        Due.line(script, "");
        Due.show(script, 0, 0, "ab");
        Due.is("count", script.count(0), 2);
        Due.is("pin what can't be at the second place", script.pin(0, 1, EACH, 0, 0, 0), 1);
        Due.is("count of those without it", script.count(0), 1);
        Due.is("learn", script.learn(0), 10);
        Due.is("pin a place that none has", script.pin(0, 3, EACH, 0, 0, 0), 2);
        Due.is("learn still", script.learn(0), 10);
        Due.is("pin none at the second place", script.pin(0, 1, NONE, 0, 0, 0), 1);
        Due.is("count", script.count(0), 2);
        script.type('b');
        Due.is("pin the second sign", script.pin(0, 1, CONST, 0, 0, 0), 2);
        Due.is("both are left", script.count(0), 2);
        script.type('a');
        Due.is("pin the first sign", script.pin(0, 0, CONST, 0, 0, 0), 3);
        Due.is("one is left", script.count(0), 1);
        Due.is("its weight", script.weight(0, 0), 14);
        Due.is("learn", script.learn(0), 14);
    }

    private static void pinsEachKind() {
        PatchbayScript script = new PatchbayScript();
        Due.line(script, "Al B C Dow");
        Due.show(script, 0, 0, "A,B,C,D");
        Due.is("learn", script.learn(0), 7);
        Due.is("initials", Due.atom(script, 0, false, 0), "2 2 0 2 7");
        Due.is("pin those of the letters", script.pin(0, 0, EACH, 1, 1, 2), 1);
        Due.is("learn", script.learn(0), 8);
        Due.is("initials of the letters", Due.atom(script, 0, false, 0), "2 1 1 2 8");
        Due.type(script, "A,B,");
        Due.is("pin a CONST of four", script.pin(0, 0, CONST, 0, 0, 0), 1);
        Due.is("learn", script.learn(0), 29);
        Due.is("the CONST", Due.atom(script, 0, false, 0), "0 65 44 66 16");
        script.pin(0, 0, NONE, 0, 0, 0);
        Due.is("a CUT with a way", script.pin(0, 0, CUT, 0, 1, 1), 1);
        Due.is("learn: one sign, and six by CONSTs", script.learn(0), 37);
        Due.is("the CUT", Due.atom(script, 0, false, 0), "1 0 1 1 11");
        Due.is("a CUT that always fails", script.pin(0, 0, CUT, 3, 0, 0), 1);
        Due.is("learn", script.learn(0), NONE);
    }

    private static void countsPins() {
        PatchbayScript script = new PatchbayScript();
        for (int place = 0; place < 4; place++) {
            Due.is("pin at " + place, script.pin(2, place, CUT, 0, 3, 0), place + 1);
        }
        Due.is("pin in place of one", script.pin(2, 1, EACH, 3, 2, 5), 4);
        Due.is("pin none", script.pin(2, 2, NONE, 0, 0, 0), 3);
        Due.is("pin none again", script.pin(2, 2, NONE, 0, 0, 0), 3);
        Due.is("the last numbers of a CUT", script.pin(2, 2, CUT, 29, 29, 3), 4);
        Due.is("another task", script.pin(0, 2, EACH, 0, 0, 0), 1);
    }

    private static void wrongCalls() {
        PatchbayScript script = new PatchbayScript();
        script.type('a');
        Due.failsIndex("pin of the task -1", () -> script.pin(-1, 0, NONE, 0, 0, 0));
        Due.failsIndex("pin of the task 3", () -> script.pin(3, 0, NONE, 0, 0, 0));
        Due.failsIndex("pin at -1", () -> script.pin(0, -1, NONE, 0, 0, 0));
        Due.failsIndex("pin at 4, of no kind", () -> script.pin(0, 4, 7, 0, 0, 0));
        Due.failsArgument("pin of the kind -2", () -> script.pin(0, 0, -2, 0, 0, 0));
        Due.failsArgument("pin of the kind 3", () -> script.pin(0, 0, 3, 0, 0, 0));
        int[][] wrong = {{CUT, -1, 0, 0}, {CUT, 30, 0, 0}, {CUT, 0, -1, 0}, {CUT, 0, 30, 0}, {CUT, 0, 0, -1},
            {CUT, 0, 0, 4}, {EACH, -1, 0, 0}, {EACH, 4, 0, 0}, {EACH, 0, -1, 0}, {EACH, 0, 3, 0}, {EACH, 0, 0, -1},
            {EACH, 0, 0, 6}, {CUT, Integer.MAX_VALUE, 0, 0}, {EACH, 0, Integer.MIN_VALUE, 0}};
        for (int[] pin : wrong) {
            Due.failsArgument("pin of " + java.util.Arrays.toString(pin),
                    () -> script.pin(0, 0, pin[0], pin[1], pin[2], pin[3]));
        }
        Due.is("nothing is pinned", script.pin(0, 0, NONE, 0, 0, 0), 0);
        Due.is("the draft stays", script.type('b'), 2);
        Due.is("a CUT leaves the draft", script.pin(0, 0, CUT, 0, 1, 0), 1);
        Due.is("an EACH leaves the draft", script.pin(0, 0, EACH, 0, 1, 0), 1);
        Due.is("NONE leaves the draft", script.pin(0, 0, NONE, 0, 1, 0), 0);
        Due.is("the draft stays", script.type('c'), 3);
        Due.is("a CONST takes the draft", script.pin(0, 0, CONST, 0, 1, 0), 1);
        Due.is("the draft is empty", script.type('d'), 1);
    }

    private static void wrongDrafts() {
        PatchbayScript script = new PatchbayScript();
        Due.failsState("a CONST of no signs", () -> script.pin(0, 0, CONST, 0, 0, 0));
        Due.failsIndex("a CONST of no signs at no place", () -> script.pin(0, 4, CONST, 0, 0, 0));
        script.pin(0, 0, EACH, 1, 1, 1);
        Due.type(script, "abcde");
        Due.failsState("a CONST of five signs", () -> script.pin(0, 0, CONST, 0, 0, 0));
        Due.is("the pin stays, and the draft", script.pin(0, 1, EACH, 1, 1, 1), 2);
        Due.is("the draft stays", script.type('f'), 6);
    }
}
