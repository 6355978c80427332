/** Promise 2, its boundaries: type. */
public final class Edges02Type {
    private static final String PROMISE = "Promise 2";
    private static final String FULL = "abcdefghij0123456789";

    public static void main(String[] args) {
        atTheEnd();
        signsThatTextsHave();
        howMany();
        otherSigns();
        fullDraft();
        otherSignIntoAFullDraft();
        Due.end();
    }

    private static void atTheEnd() {
        Due.sentence(PROMISE, "Puts a sign at the end of the draft.");
        PatchbayScript script = new PatchbayScript();
        Due.type(script, "a ");
        Due.type(script, " b");
        script.line();
        Due.is("the line", Due.text(script, 0), "a  b");
        Due.type(script, FULL);
        script.line();
        Due.is("a full line", Due.text(script, 1), FULL);
    }

    private static void signsThatTextsHave() {
        Due.sentence(PROMISE, "`sign`: a sign that texts have");
        for (char sign : "azAZ09 ,.-/bymBYM158".toCharArray()) {
            PatchbayScript script = new PatchbayScript();
            Due.is("type('" + sign + "')", script.type(sign), 1);
            script.line();
            Due.is("the sign then", script.signAt(0, 0), sign);
        }
    }

    private static void howMany() {
        Due.sentence(PROMISE, "Returns how many signs the draft has then.");
        PatchbayScript script = new PatchbayScript();
        for (int i = 0; i < 20; i++) {
            Due.is("type(.., sign " + i + ")", script.type(FULL.charAt(i)), i + 1);
        }
        script.line();
        Due.is("behind a line", script.type('a'), 1);
        script.show(0, 0);
        Due.is("behind what was shown", script.type('a'), 1);
        script.pin(0, 0, PatchbayScript.CONST, 0, 0, 0);
        Due.is("behind a pinned CONST", script.type('a'), 1);
    }

    /** The codes next to those of the signs, and the farthest out. */
    private static void otherSigns() {
        Due.sentence(PROMISE, "Throws `IllegalArgumentException` if it is another one");
        char[] others = {0, 31, 33, '+', ':', '@', '[', '`', '{', 127, 128, 255, 256 + 'a', 65535, '_', '\n', '?', '!'};
        for (char other : others) {
            Twins.failArgument("type of the code " + (int) other, Stories::rich, script -> script.type(other));
        }
    }

    private static void fullDraft() {
        Due.sentence(PROMISE, "Throws `IllegalStateException` if the draft has 20");
        Twins.failState("type of a sign 21", script -> Stories.withDraft(script, FULL), script -> script.type('a'));
        PatchbayScript script = new PatchbayScript();
        Due.type(script, FULL.substring(1));
        Due.is("type of the sign 20", script.type('z'), 20);
        Due.failsState("type of a sign 21", () -> script.type('z'));
        script.line();
        Due.is("the line", Due.text(script, 0), FULL.substring(1) + "z");
    }

    private static void otherSignIntoAFullDraft() {
        Due.sentence("Terms", "if several exceptions apply, the one that its @throws lines name first is thrown");
        for (char other : new char[] {0, '!', 65535}) {
            Twins.failArgument("type of the code " + (int) other + " into a full draft",
                    script -> Stories.withDraft(script, FULL), script -> script.type(other));
        }
    }
}
