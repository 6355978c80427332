/** Promise 21: asked. */
public final class Promise21Asked {
    private static final int ASK = PatchbayScript.ASK;

    public static void main(String[] args) {
        PatchbayScript script = new PatchbayScript();
        Due.is("asked by none", script.asked(), 0);
        String[] texts = {"1", "a", "b2", "", "c", "d", "e", "3"};
        for (String text : texts) {
            Due.line(script, text);
        }
        Due.show(script, 1, 1, "A");
        Due.is("learn", script.learn(1), 6);
        script.run(1, 0, 3, PatchbayScript.SKIP);
        script.run(1, 0, 3, PatchbayScript.STOP);
        Due.is("SKIP and STOP ask not", script.asked(), 0);
        Due.is("run", script.run(1, 2, 7, ASK), 4);
        Due.is("the lines on which it failed", script.asked(), 1 << 3 | 1 << 7);
        Due.is("they are not asked any more", script.asked(), 0);
        Due.is("run on one", script.run(1, 3, 3, ASK), 0);
        Due.is("run on another one", script.run(1, 7, 7, ASK), 0);
        Due.is("run on it again", script.run(1, 7, 7, ASK), 0);
        script.undo(3);
        script.undo(4);
        Due.is("of several runs, also of undone ones, once each", script.asked(), 1 << 3 | 1 << 7);
        script.undo(3);
        Due.is("doing again asks not", script.asked(), 0);
        Due.is("run on a line alone where it makes something", script.run(1, 4, 4, ASK), 1);
        Due.is("it is not asked", script.asked(), 0);
        Due.is("the line that is asked can be shown", script.run(1, 3, 3, ASK), 0);
        Due.show(script, 1, 3, "y");
        Due.is("and is asked all the same", script.asked(), 1 << 3);
        Due.is("but not again", script.run(1, 3, 3, ASK), 0);
        Due.is("as an example is there", script.asked(), 0);
        Due.end();
    }
}
