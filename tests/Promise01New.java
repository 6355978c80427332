/** Promise 1: a new object. */
public final class Promise01New {
    public static void main(String[] args) {
        PatchbayScript script = new PatchbayScript();
        Due.failsIndex("length(0) of a new object", () -> script.length(0));
        Due.is("runs() of a new object", script.runs(), 0);
        Due.is("asked() of a new object", script.asked(), 0);
        for (int task = 0; task < 3; task++) {
            int of = task;
            Due.is("count of a new task", script.count(task), 0);
            Due.is("question of a new task", script.question(task), PatchbayScript.NONE);
            Due.is("condition of a new task", script.condition(task), PatchbayScript.NONE);
            Due.is("atomAt of a new task", script.atomAt(task, false, 0, 0), PatchbayScript.NONE);
            Due.is("atomAt of the second program of a new task", script.atomAt(task, true, 0, 0), PatchbayScript.NONE);
            Due.failsState("learn of a new task", () -> script.learn(of));
            Due.is("stand(.., false) of a new task", script.stand(task, false), false);
            Due.is("pins of a new task", script.pin(task, 0, PatchbayScript.NONE, 0, 0, 0), 0);
        }
        Due.is("line() of the empty draft", script.line(), 0);
        Due.is("length of the line of the empty draft", script.length(0), 0);
        Due.is("runs() after a line of a new object", script.runs(), 0);

        PatchbayScript other = new PatchbayScript();
        Due.is("type into one object", script.type('a'), 1);
        Due.is("the draft of another one", other.type('b'), 1);
        constants();
        Due.end();
    }

    private static void constants() {
        Due.is("NONE", PatchbayScript.NONE, -1);
        Due.is("CONST", PatchbayScript.CONST, 0);
        Due.is("CUT", PatchbayScript.CUT, 1);
        Due.is("EACH", PatchbayScript.EACH, 2);
        Due.is("STOP", PatchbayScript.STOP, 0);
        Due.is("SKIP", PatchbayScript.SKIP, 1);
        Due.is("ASK", PatchbayScript.ASK, 2);
    }
}
