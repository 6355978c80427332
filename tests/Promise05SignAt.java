/** Promise 5: signAt. */
public final class Promise05SignAt {
    public static void main(String[] args) {
        PatchbayScript script = new PatchbayScript();
        Due.failsIndex("signAt without lines", () -> script.signAt(0, 0));
        Due.line(script, "Az 09,.-/");
        Due.line(script, "");
        Due.line(script, "b");
        String text = "Az 09,.-/";
        for (int i = 0; i < text.length(); i++) {
            Due.is("signAt(0, " + i + ")", script.signAt(0, i), text.charAt(i));
        }
        Due.is("signAt(2, 0)", script.signAt(2, 0), 'b');
        Due.failsIndex("signAt behind the last sign", () -> script.signAt(0, 9));
        Due.failsIndex("signAt(0, -1)", () -> script.signAt(0, -1));
        Due.failsIndex("signAt(1, 0)", () -> script.signAt(1, 0));
        Due.failsIndex("signAt(2, 1)", () -> script.signAt(2, 1));
        Due.failsIndex("signAt(3, 0)", () -> script.signAt(3, 0));
        Due.failsIndex("signAt(-1, 0)", () -> script.signAt(-1, 0));
        Due.failsIndex("signAt(0, MAX)", () -> script.signAt(0, Integer.MAX_VALUE));
        Due.failsIndex("signAt(MIN, MIN)", () -> script.signAt(Integer.MIN_VALUE, Integer.MIN_VALUE));
        Due.show(script, 0, 0, "xy");
        Due.is("a sign of what was shown", script.signAt(0, 1), 'y');
        Due.failsIndex("a sign that was there", () -> script.signAt(0, 2));
        Due.end();
    }
}
