/** Promise 4: length. */
public final class Promise04Length {
    public static void main(String[] args) {
        PatchbayScript script = new PatchbayScript();
        Due.failsIndex("length without lines", () -> script.length(0));
        Due.line(script, "");
        Due.line(script, "Ada Byron");
        Due.line(script, "12345678901234567890");
        Due.is("length of an empty line", script.length(0), 0);
        Due.is("length of a line", script.length(1), 9);
        Due.is("length of a full line", script.length(2), 20);
        Due.failsIndex("length(-1)", () -> script.length(-1));
        Due.failsIndex("length(3)", () -> script.length(3));
        Due.failsIndex("length of the least number", () -> script.length(Integer.MIN_VALUE));
        Due.failsIndex("length of the greatest number", () -> script.length(Integer.MAX_VALUE));
        Due.show(script, 0, 1, "Ada");
        Due.is("length of what was shown", script.length(1), 3);
        script.learn(0);
        Due.line(script, "Bob Cox");
        script.run(0, 3, 3, PatchbayScript.STOP);
        Due.is("length of what a run made", script.length(3), 3);
        script.undo(0);
        Due.is("length without the run", script.length(3), 7);
        Due.end();
    }
}
