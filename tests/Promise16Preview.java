/** Promise 16: preview. */
public final class Promise16Preview {
    public static void main(String[] args) {
        wrongCalls();
        signs();
        atoms();
        tooLong();
        parted();
        Due.end();
    }

    private static void wrongCalls() {
        PatchbayScript script = new PatchbayScript();
        Due.failsIndex("preview without lines", () -> script.preview(0, 0, 0));
        Due.line(script, "ab");
        Due.is("preview of nothing learnt", script.preview(0, 0, 0), '?');
        Due.is("preview of nothing learnt, far behind", script.preview(0, 0, 99), '?');
        Due.failsIndex("preview(-1, 0, 0)", () -> script.preview(-1, 0, 0));
        Due.failsIndex("preview(3, 0, 0)", () -> script.preview(3, 0, 0));
        Due.failsIndex("preview(0, -1, 0)", () -> script.preview(0, -1, 0));
        Due.failsIndex("preview(0, 1, 0)", () -> script.preview(0, 1, 0));
        Due.failsIndex("preview(0, 0, -1)", () -> script.preview(0, 0, -1));
        Due.show(script, 0, 0, "AB");
        Due.is("preview of what is shown, not learnt", script.preview(0, 0, 0), '?');
        Due.failsIndex("preview(0, 0, MIN)", () -> script.preview(0, 0, Integer.MIN_VALUE));
    }

    private static void signs() {
        PatchbayScript script = new PatchbayScript();
        Due.line(script, "Ada Byron");
        Due.line(script, "Bob Cox");
        Due.line(script, "x");
        script.line();
        Due.show(script, 0, 0, "Byron A.");
        script.learn(0);
        Due.is("preview of a line", Due.preview(script, 0, 1), "Cox A.");
        Due.is("behind the last sign", script.preview(0, 1, 6), '!');
        Due.is("far behind", script.preview(0, 1, Integer.MAX_VALUE), '!');
        Due.is("where it fails", script.preview(0, 3, 0), '?');
        Due.is("where it fails, behind", script.preview(0, 3, 5), '?');
        Due.is("of the line that was shown, as it is now", Due.preview(script, 0, 0), "A A.");
        Due.is("of another task", script.preview(1, 1, 0), '?');
        Due.is("the line stays", Due.text(script, 1), "Bob Cox");
    }

    private static void atom(String text, String shown, String other, String made) {
        PatchbayScript script = new PatchbayScript();
        Due.line(script, text);
        Due.line(script, other);
        Due.show(script, 0, 0, shown);
        script.learn(0);
        Due.is("what is learnt by '" + text + "' to '" + shown + "', of '" + other + "'",
                Due.preview(script, 0, 1), made);
    }

    private static void atoms() {
        atom("ada k", "ADA", "azB k", "AZB");
        atom("ADA k", "ada", "AZb k", "azb");
        atom("aDA k", "Ada", "zAZ k", "Zaz");
        atom("-aDA- .", "-ada- .", "-X.Yy, .Q", "-x.yy, .q");
        atom("ab cd ef", "abcdef", "gh.ij", "ghij");
        atom("ab cd ef", "ace", "gh", "g");
        atom("ab cd ef", "bdf", "gh.ij-kl mn", "hjln");
        atom("1a2b3", "1 2 3", "44 5-6", "44 5 6");
        atom("1a2b3", "1,2,3", "44 5-6", "44,5,6");
        atom("1a2b3", "1.2.3", "44 5-6", "44.5.6");
        atom("1a2b3", "1-2-3", "44 5-6", "44-5-6");
        atom("1a2b3", "1/2/3", "44 5-6", "44/5/6");
        atom("1a2b3", "1/2/3", "4", "4");
        atom("1a2b3", "1/2/3", "", "?");
        atom("", "yes", "no", "yes");
    }

    /** A text of ten signs is put twice; eleven would make 22. */
    private static void tooLong() {
        PatchbayScript script = new PatchbayScript();
        Due.line(script, "abcde");
        Due.line(script, "abcdefghij");
        Due.line(script, "abcdefghijk");
        Due.show(script, 0, 0, "abcdeabcde");
        script.learn(0);
        Due.is("20 signs", Due.preview(script, 0, 1), "abcdefghijabcdefghij");
        Due.is("behind 20 signs", script.preview(0, 1, 20), '!');
        Due.is("22 signs", script.preview(0, 2, 0), '?');
    }

    private static void parted() {
        PatchbayScript script = new PatchbayScript();
        Due.line(script, "7.11.26");
        Due.line(script, "a 12");
        Due.line(script, "3.4");
        Due.line(script, "bc");
        Due.line(script, "5");
        Due.show(script, 1, 0, "26");
        Due.show(script, 1, 1, "a");
        script.learn(1);
        Due.is("where the condition holds", Due.preview(script, 1, 2), "4");
        Due.is("where it does not", Due.preview(script, 1, 3), "bc");
        Due.is("where the second one fails, the first one does not help", Due.preview(script, 1, 4), "?");
    }
}
