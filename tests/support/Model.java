import java.util.ArrayList;
import java.util.Arrays;
import java.util.Collections;
import java.util.Comparator;
import java.util.HashMap;
import java.util.List;
import java.util.Map;
import java.util.Optional;
import java.util.regex.Matcher;
import java.util.regex.Pattern;

/** The document in plain, slow words, with Java's own texts and lists: what PatchbayScript is compared with. */
final class Model {
    static final String[] CLASSES = {"[0-9]+", "[a-zA-Z]+", "[A-Z]+", "[^ ]+"};
    static final Pattern[] PATTERNS = {Pattern.compile(CLASSES[0]), Pattern.compile(CLASSES[1]),
        Pattern.compile(CLASSES[2]), Pattern.compile(CLASSES[3])};
    static final String[] MARKS = {"", " ", ",", ".", "-", "/"};
    static final String SIGNS = "abcdefghijklmnopqrstuvwxyzABCDEFGHIJKLMNOPQRSTUVWXYZ0123456789 ,.-/";

    record Atom(int kind, int a, int b, int c, String signs) {
    }

    record Example(String was, String shown, int line) {
    }

    record Refusal(String of, String text) {
    }

    /** One program, and no condition, or two. */
    record Learnt(int condition, List<Atom> first, List<Atom> second) {
        String of(String text) {
            return make(condition < 0 || holds(condition, text) ? first : second, text);
        }

        int weight() {
            return weightOf(first) + (condition < 0 ? 0 : weightOf(second));
        }
    }

    static final class Task {
        final List<Example> examples = new ArrayList<>();
        final List<Refusal> refusals = new ArrayList<>();
        final Atom[] pins = new Atom[4];
        Learnt learnt;
        boolean standing;
    }

    static final class Run {
        Learnt learnt;
        boolean undone;
    }

    /** What was shown, or a run. */
    record Step(String shown, Run run) {
    }

    static final class Line {
        String came;
        final List<Step> steps = new ArrayList<>();

        String text() {
            String text = came;
            for (Step step : steps) {
                if (step.run == null) {
                    text = step.shown;
                } else if (!step.run.undone) {
                    String made = step.run.learnt.of(text);
                    text = made == null ? text : made;
                }
            }
            return text;
        }
    }

    String draft = "";
    final List<Line> lines = new ArrayList<>();
    final List<Run> runs = new ArrayList<>();
    final Task[] tasks = {new Task(), new Task(), new Task()};
    int asked;

    // ---- atoms and programs

    static List<int[]> runsOf(int kind, String text) {
        List<int[]> found = new ArrayList<>();
        Matcher matcher = PATTERNS[kind].matcher(text);
        while (matcher.find()) {
            found.add(new int[] {matcher.start(), matcher.end()});
        }
        return found;
    }

    static int place(int spot, String text) {
        if (spot <= 2) {
            return text.length() >= spot ? spot : -1;
        }
        if (spot <= 5) {
            return text.length() >= spot - 3 ? text.length() - (spot - 3) : -1;
        }
        for (int kind = 0; kind < 4; kind++) {
            List<int[]> found = runsOf(kind, text);
            for (int end = 0; end < 2; end++) {
                for (int which = 0; which < 3; which++) {
                    if (spot == 6 + 6 * kind + 3 * end + which) {
                        int index = which == 2 ? found.size() - 1 : which;
                        return index >= 0 && index < found.size() ? found.get(index)[end] : -1;
                    }
                }
            }
        }
        throw new AssertionError(spot);
    }

    private static final Map<String, int[]> PLACES = new HashMap<>();

    private static int[] places(String text) {
        if (!PLACES.containsKey(text)) {
            int[] places = new int[30];
            Arrays.setAll(places, spot -> place(spot, text));
            PLACES.put(text, places);
        }
        return PLACES.get(text);
    }

    static int weightOfSpot(int spot) {
        int[] ends = {3, 4, 5, 3, 4, 5};
        return spot < 6 ? ends[spot] : new int[] {1, 2, 1}[(spot - 6) % 3];
    }

    static int weightOf(Atom atom) {
        if (atom.kind == 0) {
            return 4 + 3 * atom.signs.length();
        }
        if (atom.kind == 1) {
            return 2 + weightOfSpot(atom.a) + weightOfSpot(atom.b) + (atom.c != 0 ? 2 : 0);
        }
        return 6 + (atom.b != 0 ? 1 : 0) + (atom.c != 0 ? 1 : 0);
    }

    static int weightOf(List<Atom> program) {
        int sum = 0;
        for (Atom atom : program) {
            sum += weightOf(atom);
        }
        return sum;
    }

    static String make(Atom atom, String text) {
        if (atom.kind == 0) {
            return atom.signs;
        }
        if (atom.kind == 1) {
            int from = places(text)[atom.a];
            int to = places(text)[atom.b];
            if (from < 0 || to < 0 || from >= to) {
                return null;
            }
            String cut = text.substring(from, to);
            switch (atom.c) {
                case 0: return cut;
                case 1: return cut.toUpperCase();
                case 2: return cut.toLowerCase();
                default: return cut.substring(0, 1).toUpperCase() + cut.substring(1).toLowerCase();
            }
        }
        List<String> parts = new ArrayList<>();
        for (int[] found : runsOf(atom.a, text)) {
            int from = atom.b == 2 ? found[1] - 1 : found[0];
            int to = atom.b == 1 ? found[0] + 1 : found[1];
            parts.add(text.substring(from, to));
        }
        return parts.isEmpty() ? null : String.join(MARKS[atom.c], parts);
    }

    static String make(List<Atom> program, String text) {
        StringBuilder made = new StringBuilder();
        for (Atom atom : program) {
            String part = make(atom, text);
            if (part == null) {
                return null;
            }
            made.append(part);
        }
        return made.length() > 20 ? null : made.toString();
    }

    static boolean holds(int condition, String text) {
        if (condition < 12) {
            return runsOf(condition / 3, text).size() >= condition % 3 + 1;
        }
        if (condition < 16) {
            return !text.isEmpty() && text.substring(0, 1).matches(CLASSES[condition - 12]);
        }
        return text.contains(MARKS[condition - 15]);
    }

    static int compare(Atom x, Atom y) {
        if (x.kind != y.kind) {
            return Integer.compare(x.kind, y.kind);
        }
        if (x.kind == 0) {
            int byLength = Integer.compare(x.signs.length(), y.signs.length());
            return byLength != 0 ? byLength : x.signs.compareTo(y.signs);
        }
        return x.a != y.a ? Integer.compare(x.a, y.a) : x.b != y.b ? Integer.compare(x.b, y.b)
                : Integer.compare(x.c, y.c);
    }

    static int compare(List<Atom> x, List<Atom> y) {
        if (weightOf(x) != weightOf(y)) {
            return Integer.compare(weightOf(x), weightOf(y));
        }
        if (x.size() != y.size()) {
            return Integer.compare(x.size(), y.size());
        }
        for (int i = 0; i < x.size(); i++) {
            int order = compare(x.get(i), y.get(i));
            if (order != 0) {
                return order;
            }
        }
        return 0;
    }

    // ---- the programs that count: the best ends, from each place where the examples may stand together

    record Made(Atom atom, String[] texts) {
    }

    private final Map<List<Object>, List<List<Atom>>> bestKnown = new HashMap<>();

    List<List<Atom>> best(List<Example> examples, Atom[] pins) {
        if (examples.isEmpty()) {
            return List.of();
        }
        List<Object> key = List.of(new ArrayList<>(examples), new ArrayList<>(Arrays.asList(pins)));
        if (!bestKnown.containsKey(key)) {
            bestKnown.put(key, ends(examples, pins, useful(examples), new int[examples.size()], 0, new HashMap<>()));
        }
        return bestKnown.get(key);
    }

    private static List<List<Atom>> ends(List<Example> examples, Atom[] pins, List<Made> atoms, int[] at, int place,
            Map<String, List<List<Atom>>> known) {
        boolean isEnd = true;
        for (int i = 0; i < at.length; i++) {
            isEnd &= at[i] == examples.get(i).shown.length();
        }
        if (isEnd) {
            return List.of(List.of());
        }
        if (place == 4) {
            return List.of();
        }
        String key = place + Arrays.toString(at);
        if (known.containsKey(key)) {
            return known.get(key);
        }
        List<List<Atom>> found = new ArrayList<>();
        for (Made made : atoms) {
            if (pins[place] != null && !pins[place].equals(made.atom)) {
                continue;
            }
            int[] next = at.clone();
            boolean stands = true;
            for (int i = 0; i < at.length; i++) {
                stands &= examples.get(i).shown.startsWith(made.texts[i], at[i]);
                next[i] += made.texts[i].length();
            }
            if (stands) {
                for (List<Atom> end : ends(examples, pins, atoms, next, place + 1, known)) {
                    List<Atom> whole = new ArrayList<>();
                    whole.add(made.atom);
                    whole.addAll(end);
                    found.add(whole);
                }
            }
        }
        Comparator<List<Atom>> order = Model::compare;
        Collections.sort(found, order);
        List<List<Atom>> firsts = new ArrayList<>(found.subList(0, Math.min(5, found.size())));
        known.put(key, firsts);
        return firsts;
    }

    private static List<Made> useful(List<Example> examples) {
        List<Atom> all = new ArrayList<>();
        String shown = examples.get(0).shown;
        for (int size = 1; size <= 4; size++) {
            for (int i = 0; i + size <= shown.length(); i++) {
                Atom atom = new Atom(0, 0, 0, 0, shown.substring(i, i + size));
                if (!all.contains(atom)) {
                    all.add(atom);
                }
            }
        }
        for (int i = 0; i < 30 * 30 * 4; i++) {
            all.add(new Atom(1, i / 120, i / 4 % 30, i % 4, ""));
        }
        for (int i = 0; i < 72; i++) {
            all.add(new Atom(2, i / 18, i / 6 % 3, i % 6, ""));
        }
        List<Made> useful = new ArrayList<>();
        for (Atom atom : all) {
            String[] texts = new String[examples.size()];
            boolean isUseful = true;
            for (int i = 0; i < texts.length && isUseful; i++) {
                texts[i] = make(atom, examples.get(i).was);
                isUseful = texts[i] != null && examples.get(i).shown.contains(texts[i]);
            }
            if (isUseful) {
                useful.add(new Made(atom, texts));
            }
        }
        return useful;
    }

    private static boolean isFit(Task task, List<Atom> program) {
        for (Refusal refusal : task.refusals) {
            if (refusal.text.equals(make(program, refusal.of))) {
                return false;
            }
        }
        return true;
    }

    private List<Atom> chosen(Task task, List<Example> examples) {
        for (List<Atom> program : best(examples, task.pins)) {
            if (isFit(task, program)) {
                return program;
            }
        }
        return null;
    }

    private Learnt learnt(Task task) {
        List<Atom> one = chosen(task, task.examples);
        if (one != null) {
            return new Learnt(-1, one, null);
        }
        Learnt least = null;
        for (int condition = 0; condition <= 20; condition++) {
            List<Example> held = new ArrayList<>();
            List<Example> others = new ArrayList<>();
            for (Example example : task.examples) {
                (holds(condition, example.was) ? held : others).add(example);
            }
            List<Atom> first = chosen(task, held);
            List<Atom> second = chosen(task, others);
            if (first != null && second != null) {
                Learnt parted = new Learnt(condition, first, second);
                if (least == null || parted.weight() < least.weight()) {
                    least = parted;
                }
            }
        }
        return least;
    }

    // ---- the calls

    private static void index(boolean isThere) {
        if (!isThere) {
            throw new IndexOutOfBoundsException();
        }
    }

    private static void argument(boolean isRight) {
        if (!isRight) {
            throw new IllegalArgumentException();
        }
    }

    private static void state(boolean isRight) {
        if (!isRight) {
            throw new IllegalStateException();
        }
    }

    private Task task(int task) {
        index(task >= 0 && task <= 2);
        return tasks[task];
    }

    private Line aLine(int line) {
        index(line >= 0 && line < lines.size());
        return lines.get(line);
    }

    private static boolean isShownOn(Task task, int line) {
        return task.examples.stream().anyMatch(example -> example.line == line);
    }

    int type(char sign) {
        argument(SIGNS.indexOf(sign) >= 0);
        state(draft.length() < 20);
        draft += sign;
        return draft.length();
    }

    int line() {
        state(lines.size() < 8);
        int standing = 0;
        for (Task task : tasks) {
            standing += task.standing ? 1 : 0;
        }
        state(runs.size() + standing <= 30);
        Line line = new Line();
        line.came = draft;
        draft = "";
        lines.add(line);
        for (Task task : tasks) {
            if (task.standing) {
                runOn(task, lines.size() - 1, lines.size() - 1, 1);
            }
        }
        return lines.size() - 1;
    }

    int length(int line) {
        return aLine(line).text().length();
    }

    char signAt(int line, int place) {
        String text = aLine(line).text();
        index(place >= 0 && place < text.length());
        return text.charAt(place);
    }

    int placeOf(int line, int spot) {
        String text = aLine(line).text();
        argument(spot >= 0 && spot <= 29);
        return place(spot, text);
    }

    int show(int task, int line) {
        Task of = task(task);
        Line on = aLine(line);
        state(!draft.isEmpty() && of.examples.size() < 4 && !isShownOn(of, line));
        of.examples.add(new Example(on.text(), draft, line));
        on.steps.add(new Step(draft, null));
        draft = "";
        return of.examples.size();
    }

    int refuse(int task, int line) {
        Task of = task(task);
        String text = aLine(line).text();
        String made = of.learnt == null ? null : of.learnt.of(text);
        state(made != null && of.refusals.size() < 4);
        of.refusals.add(new Refusal(text, made));
        return of.refusals.size();
    }

    int pin(int task, int place, int kind, int a, int b, int c) {
        Task of = task(task);
        index(place >= 0 && place <= 3);
        argument(kind >= -1 && kind <= 2);
        argument(kind != 1 || a >= 0 && a <= 29 && b >= 0 && b <= 29 && c >= 0 && c <= 3);
        argument(kind != 2 || a >= 0 && a <= 3 && b >= 0 && b <= 2 && c >= 0 && c <= 5);
        state(kind != 0 || draft.length() >= 1 && draft.length() <= 4);
        of.pins[place] = kind < 0 ? null : kind == 0 ? new Atom(0, 0, 0, 0, draft) : new Atom(kind, a, b, c, "");
        if (kind == 0) {
            draft = "";
        }
        int pinned = 0;
        for (Atom pin : of.pins) {
            pinned += pin == null ? 0 : 1;
        }
        return pinned;
    }

    int learn(int task) {
        Task of = task(task);
        state(!of.examples.isEmpty());
        of.learnt = learnt(of);
        of.standing &= of.learnt != null;
        return of.learnt == null ? -1 : of.learnt.weight();
    }

    int count(int task) {
        return best(task(task).examples, tasks[task].pins).size();
    }

    int weight(int task, int which) {
        List<List<Atom>> best = best(task(task).examples, tasks[task].pins);
        index(which >= 0 && which < best.size());
        return weightOf(best.get(which));
    }

    int question(int task) {
        Task of = task(task);
        List<List<Atom>> best = new ArrayList<>(best(of.examples, of.pins));
        best.removeIf(program -> !isFit(of, program));
        for (int line = 0; line < lines.size(); line++) {
            String text = lines.get(line).text();
            long unlike = best.stream().map(program -> Optional.ofNullable(make(program, text))).distinct().count();
            if (unlike > 1 && !isShownOn(of, line)) {
                return line;
            }
        }
        return -1;
    }

    int condition(int task) {
        Learnt learnt = task(task).learnt;
        return learnt == null ? -1 : learnt.condition;
    }

    int atomAt(int task, boolean isElse, int place, int what) {
        Learnt learnt = task(task).learnt;
        index(place >= 0);
        argument(what >= 0 && what <= 4);
        List<Atom> program = learnt == null ? null : isElse ? learnt.second : learnt.first;
        if (program == null || place >= program.size()) {
            return -1;
        }
        Atom atom = program.get(place);
        if (what == 0 || what == 4) {
            return what == 0 ? atom.kind : weightOf(atom);
        }
        if (atom.kind == 0) {
            return what <= atom.signs.length() ? atom.signs.charAt(what - 1) : 0;
        }
        return what == 1 ? atom.a : what == 2 ? atom.b : atom.c;
    }

    char preview(int task, int line, int place) {
        Learnt learnt = task(task).learnt;
        String text = aLine(line).text();
        index(place >= 0);
        String made = learnt == null ? null : learnt.of(text);
        return made == null ? '?' : place < made.length() ? made.charAt(place) : '!';
    }

    int run(int task, int from, int to, int way) {
        Task of = task(task);
        aLine(from);
        aLine(to);
        argument(from <= to && way >= 0 && way <= 2);
        state(of.learnt != null && runs.size() < 30);
        return runOn(of, from, to, way);
    }

    private int runOn(Task task, int from, int to, int way) {
        Run run = new Run();
        run.learnt = task.learnt;
        runs.add(run);
        int having = 0;
        for (int line = from; line <= to; line++) {
            if (isShownOn(task, line)) {
                continue;
            }
            if (task.learnt.of(lines.get(line).text()) != null) {
                lines.get(line).steps.add(new Step(null, run));
                having++;
            } else if (way == 0) {
                return having;
            } else if (way == 2) {
                asked |= 1 << line;
            }
        }
        return having;
    }

    boolean undo(int run) {
        index(run >= 0 && run < runs.size());
        runs.get(run).undone = !runs.get(run).undone;
        return !runs.get(run).undone;
    }

    boolean stand(int task, boolean is) {
        Task of = task(task);
        state(!is || of.learnt != null);
        boolean was = of.standing;
        of.standing = is;
        return was;
    }

    int asked() {
        int told = asked;
        asked = 0;
        return told;
    }
}
