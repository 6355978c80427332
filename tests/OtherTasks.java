import java.util.ArrayList;
import java.util.List;

/**
 * Promises 10 to 13 and 15: what a task answers may not depend on what was asked before, of it or of others. By
 * chance (told ahead by a seed) a busy object is asked about two tasks again and again, with unlike numbers of
 * examples; a quiet object gets the calls alone that change something, and is asked at the end.
 */
public final class OtherTasks {
    private static final int RUNS = 4000;
    private static final int SEARCHES = 60;
    /** No object is used for more than 512 calls. */
    private static final int TIMES = 40;
    private static final String[] PILES = {"abcd", "ab", "aA", "aA1 ", "1a.", "a ,"};

    private final int run;
    private long chance;
    private final String pile;
    /** Lines that are empty leave CONSTs alone, so that few programs count and each matters. */
    private final boolean isBare;
    private final List<Change> changes = new ArrayList<>();
    private final PatchbayScript busy = new PatchbayScript();
    private final PatchbayScript quiet = new PatchbayScript();
    /** By task: its one pin, or "". */
    private final String[] pinned = {"", "", ""};
    private final int[] placeOfPin = new int[3];

    /** A call that may change what is answered later. */
    private interface Change {
        void on(PatchbayScript script);
    }

    private OtherTasks(int run) {
        this.run = run;
        chance = run * 6151L + 29;
        pile = PILES[below(PILES.length)];
        isBare = below(2) == 0;
    }

    public static void main(String[] args) {
        for (int searches = 0; searches < SEARCHES; searches++) {
            afterFourExamples(searches);
        }
        for (int run = 0; run < RUNS; run++) {
            new OtherTasks(run).play();
        }
        Due.end();
    }

    /** Four examples for which no program counts, many searches, and three for which a program of four atoms does. */
    private static void afterFourExamples(int searches) {
        PatchbayScript script = new PatchbayScript();
        String[] turned = {"abcd", "bcda", "cdab", "dabc"};
        for (int line = 0; line < 4; line++) {
            script.line();
            Due.show(script, 0, line, turned[line]);
        }
        Due.is("none makes all four", script.count(0), 0);
        Due.show(script, 1, 0, "0");
        for (int i = 0; i < searches; i++) {
            script.pin(1, 0, PatchbayScript.EACH, 0, 0, 0);
            script.count(1);
        }
        for (int line = 0; line < 3; line++) {
            Due.show(script, 2, line, "abcd");
        }
        pinSign(script, 2, 0, 'a');
        Due.is("after " + searches + " searches: count", script.count(2), 4);
        int[] weights = {20, 24, 24, 28};
        for (int i = 0; i < 4 && i < script.count(2); i++) {
            Due.is("after " + searches + " searches: weight of " + i, script.weight(2, i), weights[i]);
        }
        pinSign(script, 2, 1, 'b');
        pinSign(script, 2, 2, 'c');
        pinSign(script, 2, 3, 'd');
        Due.is("after " + searches + " searches: learn, sign by sign", script.learn(2), 28);
    }

    private static void pinSign(PatchbayScript script, int task, int place, char sign) {
        script.type(sign);
        script.pin(task, place, PatchbayScript.CONST, 0, 0, 0);
    }

    private int below(int bound) {
        chance = chance * 6364136223846793005L + 1442695040888963407L;
        return (int) ((chance >>> 33) % bound);
    }

    private void play() {
        for (int line = 0; line < 5; line++) {
            String text = isBare || line == 0 ? "" : aText(12);
            change(script -> Due.line(script, text));
        }
        int first = below(3);
        int last = (first + 1 + below(2)) % 3;
        int examples = 1 + below(4);
        showSome(first, examples);
        busy.count(first);
        showSome(last, below(2) == 0 ? Math.max(1, examples - 1) : 1 + below(4));
        for (Change change : changes) {
            change.on(quiet);
        }
        for (int i = 0; i < TIMES; i++) {
            makeUnknown(last);
            is("count at " + i, busy.count(last), quiet.count(last));
        }
        askAll(last);
        makeUnknown(first);
        askAll(first);
    }

    private void change(Change change) {
        change.on(busy);
        changes.add(change);
    }

    private String aText(int most) {
        StringBuilder text = new StringBuilder();
        for (int size = 1 + below(most); size > 0; size--) {
            text.append(pile.charAt(below(pile.length())));
        }
        return text.toString();
    }

    /** On all lines the same text, or one turned round, so that the lines share much or little; often pinned. */
    private void showSome(int task, int examples) {
        String same = aText(isBare ? 5 : 8);
        boolean isTurned = below(2) == 0;
        for (int line = 0; line < examples; line++) {
            int at = isTurned ? line % same.length() : 0;
            String text = below(8) == 0 ? aText(8) : same.substring(at) + same.substring(0, at);
            int on = line;
            change(script -> Due.show(script, task, on, text));
        }
        if (below(2) == 0) {
            int from = below(same.length());
            int most = Math.min(4, same.length() - from);
            placeOfPin[task] = from == 0 ? 0 : below(4);
            pinned[task] = same.substring(from, from + 1 + below(most));
            change(script -> {
                Due.type(script, pinned[task]);
                script.pin(task, placeOfPin[task], PatchbayScript.CONST, 0, 0, 0);
            });
        }
    }

    /** The same pin, or none, pinned anew: it changes nothing, but the object may not know what it has found. */
    private void makeUnknown(int task) {
        if (pinned[task].isEmpty()) {
            busy.pin(task, 0, PatchbayScript.NONE, 0, 0, 0);
        } else {
            Due.type(busy, pinned[task]);
            busy.pin(task, placeOfPin[task], PatchbayScript.CONST, 0, 0, 0);
        }
    }

    private void is(String call, int got, int want) {
        Due.is("run " + run + ": " + call, got, want);
    }

    private void askAll(int task) {
        is("count", busy.count(task), quiet.count(task));
        for (int i = 0; i < Math.min(busy.count(task), quiet.count(task)); i++) {
            is("weight of " + i, busy.weight(task, i), quiet.weight(task, i));
        }
        is("question", busy.question(task), quiet.question(task));
        is("learn", busy.learn(task), quiet.learn(task));
        is("condition", busy.condition(task), quiet.condition(task));
        Due.is("run " + run + ": atoms", Due.atoms((isElse, place, what) -> busy.atomAt(task, isElse, place, what)),
                Due.atoms((isElse, place, what) -> quiet.atomAt(task, isElse, place, what)));
    }
}
