/** What the tests share: answers compared with those that are due, and calls in plain words. */
final class Due {
    /** More than a program or a text can have, so that asking ends where a program does not end them. */
    private static final int MOST = 25;
    private static int wrong = 0;
    private static String sentence = "";

    interface Call {
        long answer();
    }

    private Due() {
    }

    /** Names the sentence of the document that the checks behind it are for: its promise or heading, its words. */
    static void sentence(String where, String words) {
        sentence = where + ", \"" + words + "\": ";
        if (!Document.has(where, words)) {
            tell("the document has no such words there");
        }
    }

    private static void tell(String fault) {
        wrong++;
        System.out.println(sentence + fault);
    }

    static void is(String what, long got, long want) {
        if (got != want) {
            tell(what + " answered " + got + ", due is " + want);
        }
    }

    static void is(String what, boolean got, boolean want) {
        is(what, got ? 1 : 0, want ? 1 : 0);
    }

    static void is(String what, String got, String want) {
        if (!got.equals(want)) {
            tell(what + " answered '" + got + "', due is '" + want + "'");
        }
    }

    /** The very class of the exception is due, not one below it. */
    static void fails(String what, Class<? extends RuntimeException> want, Call call) {
        String got;
        try {
            got = "answered " + call.answer();
        } catch (RuntimeException e) {
            if (e.getClass() == want) {
                return;
            }
            got = "threw " + e.getClass().getSimpleName();
        }
        tell(what + " " + got + ", due is " + want.getSimpleName());
    }

    static void failsIndex(String what, Call call) {
        fails(what, IndexOutOfBoundsException.class, call);
    }

    static void failsArgument(String what, Call call) {
        fails(what, IllegalArgumentException.class, call);
    }

    static void failsState(String what, Call call) {
        fails(what, IllegalStateException.class, call);
    }

    static void type(PatchbayScript script, String signs) {
        for (int i = 0; i < signs.length(); i++) {
            script.type(signs.charAt(i));
        }
    }

    static int line(PatchbayScript script, String text) {
        type(script, text);
        return script.line();
    }

    static int show(PatchbayScript script, int task, int line, String text) {
        type(script, text);
        return script.show(task, line);
    }

    static String text(PatchbayScript script, int line) {
        StringBuilder text = new StringBuilder();
        int length = script.length(line);
        for (int i = 0; i < length; i++) {
            text.append(script.signAt(line, i));
        }
        return text.toString();
    }

    /** What a task would make of a line, or "?". */
    static String preview(PatchbayScript script, int task, int line) {
        StringBuilder text = new StringBuilder();
        char sign = script.preview(task, line, 0);
        while (sign != '!' && sign != '?' && text.length() < MOST) {
            text.append(sign);
            sign = script.preview(task, line, text.length());
        }
        return sign == '?' ? "?" : text.toString();
    }

    /** A number of an atom, of the first or the second program, at a place. */
    interface Atoms {
        int number(boolean isElse, int place, int what);
    }

    /** All atoms of both programs, asked until there are no more. */
    static String atoms(Atoms atoms) {
        StringBuilder numbers = new StringBuilder();
        for (int program = 0; program < 2; program++) {
            boolean isElse = program == 1;
            numbers.append("program ").append(program).append(": ");
            for (int place = 0; place < MOST && atoms.number(isElse, place, 0) != PatchbayScript.NONE; place++) {
                for (int what = 0; what <= 4; what++) {
                    numbers.append(atoms.number(isElse, place, what)).append(what < 4 ? " " : "; ");
                }
            }
        }
        return numbers.toString();
    }

    /** An atom of what a task has learnt: its kind, its numbers a, b, c, its weight. */
    static String atom(PatchbayScript script, int task, boolean isElse, int place) {
        StringBuilder numbers = new StringBuilder();
        for (int what = 0; what <= 4; what++) {
            numbers.append(what == 0 ? "" : " ").append(script.atomAt(task, isElse, place, what));
        }
        return numbers.toString();
    }

    /** Ends the test, as the tests under ../shared/tests end. */
    static void end() {
        System.out.println(wrong == 0 ? "all answers are as due" : wrong + " answers are not as due");
        if (wrong != 0) {
            System.exit(1);
        }
    }
}
