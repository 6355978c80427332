import java.util.ArrayList;
import java.util.List;

/** Long runs of calls by chance (told ahead by a seed), each answer compared with the model's. */
public final class ModelRuns {
    private static final int RUNS = 2000;
    /** What an object answers after so many calls is free. */
    private static final int MOST_CALLS = 512;
    /** Of two programs of four atoms, each asked for its five numbers, and once more for its kind. */
    private static final int MOST_OF_ATOMS = 2 * (4 * 6 + 1);
    private static final String[] NAMES = {"Ada Byron", "Bob Cox", "eve k li", "Al B C Dow", "x", "Mr. Jo Ng", "ANN-Lee Roy"};
    private static final String[] DATES = {"7.11.26", "2026-11-18", "18/11/2026", "1.2", "a 12", "3.4.05", "no 4, at 5"};
    private static final String[] PILES = {"aA1 ", "a", "a1", "aA", "a .", "abc,1-", Model.SIGNS};

    private final PatchbayScript script = new PatchbayScript();
    private final Model model = new Model();
    private final List<String> told = new ArrayList<>();
    private final int run;
    private final boolean isWild;
    private long chance;
    private int calls;
    private boolean isWrong;

    private interface Answer {
        long of();
    }

    private ModelRuns(int run) {
        this.run = run;
        chance = run * 7919L + 17;
        isWild = run % 5 == 4;
    }

    public static void main(String[] args) {
        int runs = args.length > 0 ? Integer.parseInt(args[0]) : RUNS;
        int first = args.length > 1 ? Integer.parseInt(args[1]) : 0;
        int wrong = 0;
        long calls = 0;
        for (int i = first; i < first + runs; i++) {
            ModelRuns one = new ModelRuns(i);
            one.play();
            wrong += one.isWrong ? 1 : 0;
            calls += one.calls;
        }
        System.out.println(runs + " runs, " + calls + " calls, " + wrong + " runs not as the model");
        if (wrong != 0) {
            System.exit(1);
        }
    }

    private int below(int bound) {
        chance = chance * 6364136223846793005L + 1442695040888963407L;
        return (int) ((chance >>> 33) % bound);
    }

    /** Asks both, if the object has calls left. */
    private void same(String call, Answer ours, Answer due) {
        if (calls >= MOST_CALLS) {
            return;
        }
        calls++;
        told.add(call);
        String got = answer(ours);
        String want = answer(due);
        if (!got.equals(want) && !isWrong) {
            isWrong = true;
            System.out.println("run " + run + ": " + String.join("; ", told) + ": answered " + got + ", due is " + want);
        }
    }

    private static String answer(Answer answer) {
        try {
            return "" + answer.of();
        } catch (RuntimeException e) {
            return e.getClass().getSimpleName();
        }
    }

    private void play() {
        while (calls < MOST_CALLS && !isWrong) {
            switch (below(24)) {
                case 0, 1, 2 -> newLine();
                case 3, 4, 5, 6, 7 -> showSome();
                case 8, 9, 10 -> learnAll(below(3));
                case 11 -> pinSome();
                case 12 -> refuse(below(3), aLine());
                case 13, 14 -> runSome();
                case 15, 16 -> undo(below(Math.max(1, model.runs.size())));
                case 17 -> stand(below(3), below(3) > 0);
                case 18 -> same("asked()", script::asked, model::asked);
                case 19 -> wrongCalls();
                case 20 -> lookAtSpots(aLine());
                case 21 -> type(Model.SIGNS.charAt(below(Model.SIGNS.length())));
                default -> question(below(3));
            }
            lookAt(aLine());
        }
    }

    private int aLine() {
        return below(Math.max(1, model.lines.size()));
    }

    private String aText() {
        int style = below(10);
        if (style < 3) {
            return NAMES[below(NAMES.length)];
        }
        if (style < 6) {
            return DATES[below(DATES.length)];
        }
        String pile = PILES[below(PILES.length)];
        StringBuilder text = new StringBuilder();
        for (int size = below(isWild ? 21 : 10); size > 0; size--) {
            text.append(pile.charAt(below(pile.length())));
        }
        return text.toString();
    }

    private void type(char sign) {
        same("type('" + sign + "')", () -> script.type(sign), () -> model.type(sign));
    }

    private void typeAll(String text) {
        for (int i = 0; i < text.length() && model.draft.length() < 20; i++) {
            type(text.charAt(i));
        }
    }

    private void newLine() {
        typeAll(aText());
        same("line()", script::line, model::line);
    }

    private Model.Atom anAtom(String text) {
        int kind = below(6);
        if (kind == 0) {
            String signs = text.isEmpty() ? "q" : text;
            return new Model.Atom(0, 0, 0, 0, signs.substring(0, 1 + below(Math.min(4, signs.length()))));
        }
        return kind == 1 ? new Model.Atom(2, below(4), below(3), below(6), "")
                : new Model.Atom(1, below(30), below(30), below(2) * below(4), "");
    }

    /** Mostly what a program makes that is known to be there: as it was shown on another line, if any. */
    private String toShow(int task, int line) {
        String text = model.lines.get(line).text();
        Model.Learnt learnt = model.tasks[task].learnt;
        if (learnt != null && below(3) > 0 && learnt.of(text) != null) {
            return learnt.of(text);
        }
        for (int tries = 0; tries < 60; tries++) {
            List<Model.Atom> program = new ArrayList<>();
            for (int size = 1 + below(4); size > 0; size--) {
                program.add(anAtom(text));
            }
            boolean makes = Model.make(program, text) != null;
            for (Model.Example example : model.tasks[task].examples) {
                makes &= tries > 50 || example.shown().equals(Model.make(program, example.was()));
            }
            if (makes) {
                return Model.make(program, text);
            }
        }
        return aText();
    }

    private void showSome() {
        int task = below(3);
        int line = aLine();
        if (line < model.lines.size() && model.draft.isEmpty()) {
            typeAll(toShow(task, line));
        }
        same("show(" + task + ", " + line + ")", () -> script.show(task, line), () -> model.show(task, line));
        if (below(2) == 0) {
            learnAll(task);
        }
    }

    private void learnAll(int task) {
        same("learn(" + task + ")", () -> script.learn(task), () -> model.learn(task));
        same("condition(" + task + ")", () -> script.condition(task), () -> model.condition(task));
        int place = below(5);
        int what = below(5);
        boolean isElse = below(2) == 0;
        same("atomAt(" + task + ", " + isElse + ", " + place + ", " + what + ")",
                () -> script.atomAt(task, isElse, place, what), () -> model.atomAt(task, isElse, place, what));
        lookAtAtoms(task);
        question(task);
        int line = aLine();
        int sign = below(6);
        same("preview(" + task + ", " + line + ", " + sign + ")", () -> script.preview(task, line, sign),
                () -> model.preview(task, line, sign));
    }

    private void question(int task) {
        same("count(" + task + ")", () -> script.count(task), () -> model.count(task));
        int which = below(6) - below(2);
        same("weight(" + task + ", " + which + ")", () -> script.weight(task, which), () -> model.weight(task, which));
        same("question(" + task + ")", () -> script.question(task), () -> model.question(task));
    }

    private void pinSome() {
        int task = below(3);
        int place = below(4);
        int kind = below(5) - 1;
        Model.Learnt learnt = model.tasks[task].learnt;
        if (kind == 3 && learnt != null && !learnt.first().isEmpty()) {
            Model.Atom atom = learnt.first().get(below(learnt.first().size()));
            if (atom.kind() != 0 || model.draft.isEmpty()) {
                typeAll(atom.signs());
            }
            pin(task, place, atom.kind(), atom.a(), atom.b(), atom.c());
            return;
        }
        if (kind == 0 && model.draft.isEmpty()) {
            typeAll(aText());
        }
        pin(task, place, kind, below(4), below(3), below(4));
    }

    private void pin(int task, int place, int kind, int a, int b, int c) {
        same("pin(" + task + ", " + place + ", " + kind + ", " + a + ", " + b + ", " + c + ")",
                () -> script.pin(task, place, kind, a, b, c), () -> model.pin(task, place, kind, a, b, c));
        if (below(3) > 0) {
            learnAll(task);
        }
        if (below(2) == 0) {
            same("pin(" + task + ", " + place + ", -1, 0, 0, 0)", () -> script.pin(task, place, -1, 0, 0, 0),
                    () -> model.pin(task, place, -1, 0, 0, 0));
        }
    }

    private void refuse(int task, int line) {
        same("refuse(" + task + ", " + line + ")", () -> script.refuse(task, line), () -> model.refuse(task, line));
        learnAll(task);
    }

    private void runSome() {
        int task = below(3);
        int from = aLine();
        int to = Math.max(from, aLine());
        run(task, from, to, below(3));
    }

    private void run(int task, int from, int to, int way) {
        same("run(" + task + ", " + from + ", " + to + ", " + way + ")", () -> script.run(task, from, to, way),
                () -> model.run(task, from, to, way));
        same("runs()", script::runs, model.runs::size);
    }

    private void undo(int number) {
        same("undo(" + number + ")", () -> script.undo(number) ? 1 : 0, () -> model.undo(number) ? 1 : 0);
    }

    private void stand(int task, boolean is) {
        same("stand(" + task + ", " + is + ")", () -> script.stand(task, is) ? 1 : 0,
                () -> model.stand(task, is) ? 1 : 0);
    }

    private void wrongCalls() {
        int x = below(8) - 2;
        int y = below(12) - 2;
        int z = below(7) - 2;
        type((char) below(300));
        same("length(" + y + ")", () -> script.length(y), () -> model.length(y));
        same("signAt(" + y + ", " + x + ")", () -> script.signAt(y, x), () -> model.signAt(y, x));
        same("placeOf(" + y + ", " + 6 * x + ")", () -> script.placeOf(y, 6 * x), () -> model.placeOf(y, 6 * x));
        same("show(" + x + ", " + y + ")", () -> script.show(x, y), () -> model.show(x, y));
        same("refuse(" + x + ", " + y + ")", () -> script.refuse(x, y), () -> model.refuse(x, y));
        same("pin(" + x + ", " + z + ", " + z + ", " + y + ", " + x + ", " + z + ")",
                () -> script.pin(x, z, z, y, x, z), () -> model.pin(x, z, z, y, x, z));
        same("learn(" + x + ")", () -> script.learn(x), () -> model.learn(x));
        same("weight(" + x + ", " + z + ")", () -> script.weight(x, z), () -> model.weight(x, z));
        same("atomAt(" + x + ", true, " + z + ", " + y + ")", () -> script.atomAt(x, true, z, y),
                () -> model.atomAt(x, true, z, y));
        same("preview(" + x + ", " + y + ", " + z + ")", () -> script.preview(x, y, z), () -> model.preview(x, y, z));
        run(x, y, y + z, z);
        undo(y + x);
        stand(x, z > 0);
    }

    private void lookAtSpots(int line) {
        int spot = below(30);
        same("placeOf(" + line + ", " + spot + ")", () -> script.placeOf(line, spot), () -> model.placeOf(line, spot));
    }

    // What follows is not told: none of these calls changes anything.

    private void lookAtAtoms(int task) {
        if (calls + MOST_OF_ATOMS <= MOST_CALLS) {
            String got = Due.atoms((isElse, place, what) -> {
                calls++;
                return script.atomAt(task, isElse, place, what);
            });
            is("the atoms of " + task, got, Due.atoms((isElse, place, what) -> model.atomAt(task, isElse, place, what)));
        }
    }

    private void lookAt(int line) {
        if (line >= model.lines.size()) {
            return;
        }
        String text = model.lines.get(line).text();
        if (calls + 1 + text.length() <= MOST_CALLS) {
            calls += 1 + text.length();
            is("the line " + line, Due.text(script, line), text);
        }
    }

    private void is(String call, String got, String want) {
        if (!got.equals(want) && !isWrong) {
            isWrong = true;
            System.out.println("run " + run + ": " + String.join("; ", told) + "; " + call + " answered '" + got
                    + "', due is '" + want + "'");
        }
    }
}
