/** Promise 2: type. */
public final class Promise02Type {
    private static final String SIGNS = "abcdefghijklmnopqrstuvwxyzABCDEFGHIJKLMNOPQRSTUVWXYZ0123456789 ,.-/";

    public static void main(String[] args) {
        allSigns();
        fullDraft();
        Due.end();
    }

    private static void allSigns() {
        int right = 0;
        for (int code = 0; code <= Character.MAX_VALUE; code++) {
            PatchbayScript script = code < 400 || code % 256 == 0 ? new PatchbayScript() : null;
            if (script == null) {
                continue;
            }
            char sign = (char) code;
            if (SIGNS.indexOf(sign) >= 0) {
                right++;
                Due.is("type of the sign " + code, script.type(sign), 1);
                script.line();
                Due.is("the sign of the code " + code, script.signAt(0, 0), sign);
            } else {
                Due.failsArgument("type of the code " + code, () -> script.type(sign));
                Due.is("type behind a wrong sign", script.type('a'), 1);
            }
        }
        Due.is("how many signs there are", right, 67);
        PatchbayScript script = new PatchbayScript();
        Due.failsArgument("type of the last code", () -> script.type(Character.MAX_VALUE));
        Due.failsArgument("type of a letter of others", () -> script.type((char) ('a' + 256)));
    }

    private static void fullDraft() {
        PatchbayScript script = new PatchbayScript();
        for (int i = 1; i <= 20; i++) {
            Due.is("type of the sign " + i, script.type((char) ('a' + i)), i);
        }
        Due.failsState("type into a full draft", () -> script.type('z'));
        Due.failsArgument("type of a wrong sign into a full draft", () -> script.type('!'));
        script.line();
        Due.is("the line of a full draft", Due.text(script, 0), "bcdefghijklmnopqrstu");
        Due.is("type after a line", script.type('q'), 1);
    }
}
