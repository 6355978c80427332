/** A language of editing macros that is learnt from lines; ../shared/DOC.md promises what each call does. */
public final class PatchbayScript {
    public static final int NONE = -1;
    public static final int CONST = 0, CUT = 1, EACH = 2;
    public static final int STOP = 0, SKIP = 1, ASK = 2;

    private static final int TASKS = 3;
    private static final int LINES = 8;
    private static final int RUNS = 30;
    private static final int PLACES = 4;

    private final Text draft;
    private final Text made;
    private final Task[] tasks;
    private final Line[] lines;
    private final Run[] runsDone;
    private final Learner learner;
    private int lineCount;
    private int runCount;
    private int askedLines;

    public PatchbayScript() {
        draft = new Text();
        made = new Text();
        tasks = new Task[TASKS];
        for (int i = 0; i < TASKS; i++) {
            tasks[i] = new Task();
        }
        lines = new Line[LINES];
        for (int i = 0; i < LINES; i++) {
            lines[i] = new Line();
        }
        runsDone = new Run[RUNS];
        for (int i = 0; i < RUNS; i++) {
            runsDone[i] = new Run();
        }
        learner = new Learner();
    }

    // ---- the draft, lines

    public int type(char sign) throws IllegalArgumentException, IllegalStateException {
        if (!Sign.isOfTexts(sign)) {
            throw new IllegalArgumentException("texts have no such sign");
        }
        if (draft.size >= Text.MOST) {
            throw new IllegalStateException("the draft is full");
        }
        draft.add(sign);
        return draft.size;
    }

    public int line() throws IllegalStateException {
        if (lineCount >= LINES) {
            throw new IllegalStateException("there are as many lines as there may be");
        }
        if (runCount + standingTasks() > RUNS) {
            throw new IllegalStateException("there would be too many runs");
        }
        int number = lineCount;
        lineCount++;
        lines[number].begin(draft);
        draft.clear();
        for (int i = 0; i < TASKS; i++) {
            if (tasks[i].standing) {
                runOn(tasks[i], number, number, SKIP);
            }
        }
        return number;
    }

    public int length(int line) throws IndexOutOfBoundsException {
        needLine(line);
        return lines[line].now.size;
    }

    public char signAt(int line, int place) throws IndexOutOfBoundsException {
        needLine(line);
        Text text = lines[line].now;
        if (place < 0 || place >= text.size) {
            throw new IndexOutOfBoundsException("the text has no such sign");
        }
        return text.at(place);
    }

    public int placeOf(int line, int spot) throws IndexOutOfBoundsException, IllegalArgumentException {
        needLine(line);
        if (spot < 0 || spot >= Text.SPOTS) {
            throw new IllegalArgumentException("there is no such spot");
        }
        return lines[line].now.placeOfSpot(spot);
    }

    // ---- showing, refusing, pinning, learning

    public int show(int task, int line) throws IndexOutOfBoundsException, IllegalStateException {
        needTask(task);
        needLine(line);
        Task shownTo = tasks[task];
        if (draft.size == 0) {
            throw new IllegalStateException("nothing is shown");
        }
        if (shownTo.examples >= Task.MOST) {
            throw new IllegalStateException("the task has as many examples as it may have");
        }
        if (shownTo.hasExampleOn(line)) {
            throw new IllegalStateException("the task has an example on this line");
        }
        int example = shownTo.addExample(lines[line].now, draft, line);
        lines[line].addStep(Line.stepOfExample(task, example), draft);
        draft.clear();
        return shownTo.examples;
    }

    public int refuse(int task, int line) throws IndexOutOfBoundsException, IllegalStateException {
        needTask(task);
        needLine(line);
        Task refusing = tasks[task];
        Text text = lines[line].now;
        if (!refusing.learnt.makes(text, made)) {
            throw new IllegalStateException("nothing is made that could be refused");
        }
        if (refusing.refusals >= Task.MOST) {
            throw new IllegalStateException("the task has as many refusals as it may have");
        }
        refusing.addRefusal(text, made);
        return refusing.refusals;
    }

    public int pin(int task, int place, int kind, int a, int b, int c)
            throws IndexOutOfBoundsException, IllegalArgumentException, IllegalStateException {
        needTask(task);
        if (place < 0 || place >= PLACES) {
            throw new IndexOutOfBoundsException("a program has no such place");
        }
        if (kind < NONE || kind > EACH) {
            throw new IllegalArgumentException("there is no such kind of atoms");
        }
        if (kind == CUT && !Atom.isCut(a, b, c) || kind == EACH && !Atom.isEach(a, b, c)) {
            throw new IllegalArgumentException("there is no such atom");
        }
        if (kind == CONST && (draft.size == 0 || draft.size > Atom.MOST_SIGNS)) {
            throw new IllegalStateException("the draft is no CONST");
        }
        tasks[task].setPin(place, atomToPin(kind, a, b, c));
        if (kind == CONST) {
            draft.clear();
        }
        return tasks[task].pinCount();
    }

    public int learn(int task) throws IndexOutOfBoundsException, IllegalStateException {
        needTask(task);
        if (tasks[task].examples == 0) {
            throw new IllegalStateException("the task has no examples");
        }
        learner.learnTask(tasks[task]);
        if (!tasks[task].learnt.any) {
            tasks[task].standing = false;
            return NONE;
        }
        return tasks[task].learnt.sum();
    }

    public int count(int task) throws IndexOutOfBoundsException {
        needTask(task);
        learner.findBest(tasks[task]);
        return tasks[task].bestCount;
    }

    public int weight(int task, int which) throws IndexOutOfBoundsException {
        needTask(task);
        learner.findBest(tasks[task]);
        if (which < 0 || which >= tasks[task].bestCount) {
            throw new IndexOutOfBoundsException("not so many programs count");
        }
        return tasks[task].best[which].sum();
    }

    public int question(int task) throws IndexOutOfBoundsException {
        needTask(task);
        learner.findBest(tasks[task]);
        for (int i = 0; i < lineCount; i++) {
            if (!tasks[task].hasExampleOn(i) && learner.bestDiffer(tasks[task], lines[i].now)) {
                return i;
            }
        }
        return NONE;
    }

    // ---- what is learnt

    public int condition(int task) throws IndexOutOfBoundsException {
        needTask(task);
        return tasks[task].learnt.any ? tasks[task].learnt.parting : NONE;
    }

    public int atomAt(int task, boolean isElse, int place, int what)
            throws IndexOutOfBoundsException, IllegalArgumentException {
        needTask(task);
        if (place < 0) {
            throw new IndexOutOfBoundsException("a program has no such place");
        }
        if (what < 0 || what > Atom.SUM) {
            throw new IllegalArgumentException("an atom has no such number");
        }
        Learnt learnt = tasks[task].learnt;
        if (!learnt.any || isElse && learnt.parting == NONE) {
            return NONE;
        }
        Program program = isElse ? learnt.second : learnt.first;
        return place < program.size && place < PLACES ? Atom.numberOf(program.atoms[place], what) : NONE;
    }

    public char preview(int task, int line, int place) throws IndexOutOfBoundsException {
        needTask(task);
        needLine(line);
        if (place < 0) {
            throw new IndexOutOfBoundsException("a text has no such place");
        }
        if (!tasks[task].learnt.makes(lines[line].now, made)) {
            return '?';
        }
        return place < made.size ? made.at(place) : '!';
    }

    // ---- runs

    public int run(int task, int from, int to, int way)
            throws IndexOutOfBoundsException, IllegalArgumentException, IllegalStateException {
        needTask(task);
        needLine(from);
        needLine(to);
        if (to < from || way < STOP || way > ASK) {
            throw new IllegalArgumentException("there is no such run");
        }
        if (!tasks[task].learnt.any) {
            throw new IllegalStateException("the task has learnt nothing");
        }
        if (runCount >= RUNS) {
            throw new IllegalStateException("there were as many runs as there may be");
        }
        return runOn(tasks[task], from, to, way);
    }

    public int runs() {
        return runCount;
    }

    public boolean undo(int run) throws IndexOutOfBoundsException {
        if (run < 0 || run >= runCount) {
            throw new IndexOutOfBoundsException("there is no such run");
        }
        runsDone[run].counts = !runsDone[run].counts;
        for (int i = 0; i < lineCount; i++) {
            if (lines[i].hasStep(run)) {
                makeAgain(lines[i]);
            }
        }
        return runsDone[run].counts;
    }

    public boolean stand(int task, boolean is) throws IndexOutOfBoundsException, IllegalStateException {
        needTask(task);
        if (is && !tasks[task].learnt.any) {
            throw new IllegalStateException("the task has learnt nothing");
        }
        boolean was = tasks[task].standing;
        tasks[task].standing = is;
        return was;
    }

    public int asked() {
        int told = askedLines;
        askedLines = 0;
        return told;
    }

    // ---- what the calls share

    private void needTask(int task) {
        if (task < 0 || task >= TASKS) {
            throw new IndexOutOfBoundsException("there is no such task");
        }
    }

    private void needLine(int line) {
        if (line < 0 || line >= lineCount || line >= LINES) {
            throw new IndexOutOfBoundsException("there is no such line");
        }
    }

    private int standingTasks() {
        int found = 0;
        for (int i = 0; i < TASKS; i++) {
            if (tasks[i].standing) {
                found++;
            }
        }
        return found;
    }

    private int atomToPin(int kind, int a, int b, int c) {
        switch (kind) {
            case CONST:
                return Atom.constOf(draft);
            case CUT:
                return Atom.cut(a, b, c);
            case EACH:
                return Atom.each(a, b, c);
            default:
                return NONE;
        }
    }

    /** Both lines stand, and there is room for a run: the callers have looked. */
    private int runOn(Task task, int from, int to, int way) {
        if (runCount >= RUNS) {
            return 0;
        }
        int number = runCount;
        runCount++;
        runsDone[number].begin(task.learnt);
        int having = 0;
        for (int i = from; i <= to && i < LINES; i++) {
            if (task.hasExampleOn(i)) {
                continue;
            }
            if (task.learnt.makes(lines[i].now, made)) {
                lines[i].addStep(number, made);
                having++;
            } else if (way == STOP) {
                break;
            } else if (way == ASK) {
                askedLines |= 1 << i;
            }
        }
        return having;
    }

    private void makeAgain(Line line) {
        line.now.set(line.came);
        for (int i = 0; i < line.stepCount; i++) {
            int step = line.steps[i];
            if (step < 0) {
                line.now.set(shownAt(step));
            } else if (step < RUNS && runsDone[step].counts && runsDone[step].learnt.makes(line.now, made)) {
                line.now.set(made);
            }
        }
    }

    private Text shownAt(int step) {
        int task = Line.taskOfStep(step);
        int example = Line.exampleOfStep(step);
        return task < TASKS ? tasks[task].shown[example] : made;
    }

    /** The signs that texts have, and their classes. */
    private static final class Sign {
        static final int CLASSES = 4;
        static final int CODES = 128;
        static final int MARKS = 6;

        static boolean isDigit(char sign) {
            return sign >= '0' && sign <= '9';
        }

        static boolean isCapital(char sign) {
            return sign >= 'A' && sign <= 'Z';
        }

        static boolean isSmall(char sign) {
            return sign >= 'a' && sign <= 'z';
        }

        static boolean isOfTexts(char sign) {
            if (isDigit(sign) || isCapital(sign) || isSmall(sign)) {
                return true;
            }
            for (int mark = 1; mark < MARKS; mark++) {
                if (sign == markOf(mark)) {
                    return true;
                }
            }
            return false;
        }

        static boolean isOf(char sign, int kind) {
            switch (kind) {
                case 0:
                    return isDigit(sign);
                case 1:
                    return isCapital(sign) || isSmall(sign);
                case 2:
                    return isCapital(sign);
                default:
                    return sign != ' ';
            }
        }

        static char markOf(int mark) {
            switch (mark) {
                case 1:
                    return ' ';
                case 2:
                    return ',';
                case 3:
                    return '.';
                case 4:
                    return '-';
                default:
                    return '/';
            }
        }

        /** A sign of a CUT by its way, which asks whether it is the first one. */
        static char turned(char sign, int way, boolean isFirst) {
            boolean toCapital = way == 1 || way == 3 && isFirst;
            boolean toSmall = way == 2 || way == 3 && !isFirst;
            if (toCapital && isSmall(sign)) {
                return (char) (sign - 'a' + 'A');
            }
            if (toSmall && isCapital(sign)) {
                return (char) (sign - 'A' + 'a');
            }
            return sign;
        }
    }

    /** A text; its row is made once, as nothing that is made is ever given back. */
    private static final class Text {
        static final int MOST = 20;
        static final int SPOTS = 30;
        static final int RUN_SPOTS = 6;

        private final char[] signs = new char[MOST];
        int size;

        /** Says whether there was room for the sign. */
        boolean add(char sign) {
            if (size < 0 || size >= MOST) {
                return false;
            }
            signs[size] = sign;
            size++;
            return true;
        }

        char at(int place) {
            return place >= 0 && place < size && place < MOST ? signs[place] : 0;
        }

        void clear() {
            size = 0;
        }

        void set(Text other) {
            size = other.size;
            for (int i = 0; i < MOST; i++) {
                signs[i] = other.signs[i];
            }
        }

        boolean isLike(Text other) {
            if (size != other.size) {
                return false;
            }
            for (int i = 0; i < size; i++) {
                if (at(i) != other.at(i)) {
                    return false;
                }
            }
            return true;
        }

        boolean has(char sign) {
            for (int i = 0; i < size; i++) {
                if (at(i) == sign) {
                    return true;
                }
            }
            return false;
        }

        boolean isOf(int place, int kind) {
            return place >= 0 && place < size && Sign.isOf(at(place), kind);
        }

        boolean beginsRun(int place, int kind) {
            return isOf(place, kind) && !isOf(place - 1, kind);
        }

        boolean endsRun(int place, int kind) {
            return isOf(place, kind) && !isOf(place + 1, kind);
        }

        int runsOf(int kind) {
            int found = 0;
            for (int i = 0; i < size; i++) {
                if (beginsRun(i, kind)) {
                    found++;
                }
            }
            return found;
        }

        int placeOfSpot(int spot) {
            if (spot < 0 || spot >= SPOTS) {
                return NONE;
            }
            if (spot < 3) {
                return spot <= size ? spot : NONE;
            }
            if (spot < RUN_SPOTS) {
                return spot - 3 <= size ? size - (spot - 3) : NONE;
            }
            int kind = (spot - RUN_SPOTS) / 6;
            boolean isEnd = (spot - RUN_SPOTS) % 6 >= 3;
            return placeOfRun(kind, isEnd, spot % 3);
        }

        /** Which: 0 the first run, 1 the second one, 2 the last one. */
        private int placeOfRun(int kind, boolean isEnd, int which) {
            int seen = 0;
            int last = NONE;
            for (int i = 0; i < size; i++) {
                boolean isHere = isEnd ? endsRun(i, kind) : beginsRun(i, kind);
                if (isHere) {
                    last = isEnd ? i + 1 : i;
                    if (seen == which && which < 2) {
                        return last;
                    }
                    seen++;
                }
            }
            return which == 2 ? last : NONE;
        }
    }

    /**
     * Atoms, each as one int, so that programs are rows of ints: the CUTs from 0, the EACHs behind them, in
     * their order; a CONST has its signs, seven bits each, below a bit that no other atom has.
     */
    private static final class Atom {
        static final int MOST_SIGNS = 4;
        static final int WAYS = 4;
        static final int PARTS = 3;
        static final int CUTS = Text.SPOTS * Text.SPOTS * WAYS;
        static final int EACHES = Sign.CLASSES * PARTS * Sign.MARKS;
        static final int LEAST_WEIGHT = 4;
        static final int MOST_WEIGHT = 16;
        static final int SUM = 4;

        private static final int IS_CONST = 1 << 28;

        static boolean isCut(int a, int b, int c) {
            return a >= 0 && a < Text.SPOTS && b >= 0 && b < Text.SPOTS && c >= 0 && c < WAYS;
        }

        static boolean isEach(int a, int b, int c) {
            return a >= 0 && a < Sign.CLASSES && b >= 0 && b < PARTS && c >= 0 && c < Sign.MARKS;
        }

        static int cut(int a, int b, int c) {
            return (a * Text.SPOTS + b) * WAYS + c;
        }

        static int each(int a, int b, int c) {
            return CUTS + (a * PARTS + b) * Sign.MARKS + c;
        }

        static int constOf(Text text) {
            int atom = 0;
            for (int i = 0; i < MOST_SIGNS && i < text.size; i++) {
                atom = withSign(atom, i, text.at(i));
            }
            return atom;
        }

        static int withSign(int atom, int place, char sign) {
            return atom | IS_CONST | sign << 7 * (MOST_SIGNS - 1 - place);
        }

        private static char signOf(int atom, int place) {
            return place < MOST_SIGNS ? (char) (atom >> 7 * (MOST_SIGNS - 1 - place) & 127) : 0;
        }

        private static int signsOf(int atom) {
            int found = 0;
            for (int i = 0; i < MOST_SIGNS; i++) {
                if (signOf(atom, i) != 0) {
                    found++;
                }
            }
            return found;
        }

        static int kindOf(int atom) {
            if ((atom & IS_CONST) != 0) {
                return CONST;
            }
            return atom < CUTS ? CUT : EACH;
        }

        /** What: 1, 2, 3 for a, b, c. */
        private static int partOf(int atom, int what) {
            boolean isCut = kindOf(atom) == CUT;
            int rest = isCut ? atom : atom - CUTS;
            int most = isCut ? WAYS : Sign.MARKS;
            int middle = isCut ? Text.SPOTS : PARTS;
            switch (what) {
                case 1:
                    return rest / most / middle;
                case 2:
                    return rest / most % middle;
                default:
                    return rest % most;
            }
        }

        private static int weightOfSpot(int spot) {
            if (spot < Text.RUN_SPOTS) {
                return 3 + spot % 3;
            }
            return spot % 3 == 1 ? 2 : 1;
        }

        static int weightOf(int atom) {
            int a = partOf(atom, 1);
            int b = partOf(atom, 2);
            int c = partOf(atom, 3);
            switch (kindOf(atom)) {
                case CONST:
                    return 4 + 3 * signsOf(atom);
                case CUT:
                    return 2 + weightOfSpot(a) + weightOfSpot(b) + (c == 0 ? 0 : 2);
                default:
                    return 6 + (b == 0 ? 0 : 1) + (c == 0 ? 0 : 1);
            }
        }

        static int numberOf(int atom, int what) {
            if (what == 0) {
                return kindOf(atom);
            }
            if (what == SUM) {
                return weightOf(atom);
            }
            return kindOf(atom) == CONST ? signOf(atom, what - 1) : partOf(atom, what);
        }

        /** Puts behind a text what the atom makes; false if it fails, or the text has no room. */
        static boolean makes(int atom, Text from, Text to) {
            switch (kindOf(atom)) {
                case CONST:
                    return makesConst(atom, to);
                case CUT:
                    return makesCut(atom, from, to);
                default:
                    return makesEach(atom, from, to);
            }
        }

        private static boolean makesConst(int atom, Text to) {
            int signs = signsOf(atom);
            for (int i = 0; i < signs; i++) {
                if (!to.add(signOf(atom, i))) {
                    return false;
                }
            }
            return true;
        }

        private static boolean makesCut(int atom, Text from, Text to) {
            int begin = from.placeOfSpot(partOf(atom, 1));
            int end = from.placeOfSpot(partOf(atom, 2));
            int way = partOf(atom, 3);
            if (begin < 0 || begin >= end) {
                return false;
            }
            for (int i = begin; i < end; i++) {
                if (!to.add(Sign.turned(from.at(i), way, i == begin))) {
                    return false;
                }
            }
            return true;
        }

        private static boolean makesEach(int atom, Text from, Text to) {
            int kind = partOf(atom, 1);
            int part = partOf(atom, 2);
            int mark = partOf(atom, 3);
            boolean any = false;
            for (int i = 0; i < from.size; i++) {
                if (!from.isOf(i, kind)) {
                    continue;
                }
                if (any && mark != 0 && from.beginsRun(i, kind) && !to.add(Sign.markOf(mark))) {
                    return false;
                }
                any = true;
                boolean isTaken = part == 0 || (part == 1 ? from.beginsRun(i, kind) : from.endsRun(i, kind));
                if (isTaken && !to.add(from.at(i))) {
                    return false;
                }
            }
            return any;
        }
    }

    /** A row of atoms. */
    private static final class Program {
        final int[] atoms = new int[PLACES];
        int size;

        void set(Program other) {
            size = other.size;
            for (int i = 0; i < PLACES; i++) {
                atoms[i] = other.atoms[i];
            }
        }

        void setRow(int[] row, int count) {
            size = Math.min(count, PLACES);
            for (int i = 0; i < size && i < row.length; i++) {
                atoms[i] = row[i];
            }
        }

        int sum() {
            int sum = 0;
            for (int i = 0; i < size && i < PLACES; i++) {
                sum += Atom.weightOf(atoms[i]);
            }
            return sum;
        }

        /** The text made must be another one than that of which it is made. */
        boolean makes(Text from, Text to) {
            to.clear();
            for (int i = 0; i < size && i < PLACES; i++) {
                if (!Atom.makes(atoms[i], from, to)) {
                    return false;
                }
            }
            return true;
        }
    }

    /** What a task has learnt: nothing, one program, or two that a condition parts. */
    private static final class Learnt {
        static final int CONDITIONS = 21;

        final Program first = new Program();
        final Program second = new Program();
        boolean any;
        int parting = NONE;

        static boolean holds(int condition, Text text) {
            if (condition < 12) {
                return text.runsOf(condition / 3) > condition % 3;
            }
            if (condition < 16) {
                return text.isOf(0, condition - 12);
            }
            return text.has(Sign.markOf(condition - 15));
        }

        void set(Learnt other) {
            any = other.any;
            parting = other.parting;
            first.set(other.first);
            second.set(other.second);
        }

        void setNothing() {
            any = false;
            parting = NONE;
        }

        void setOne(Program program) {
            any = true;
            parting = NONE;
            first.set(program);
        }

        void setParted(int condition, Program held, Program other) {
            any = true;
            parting = condition;
            first.set(held);
            second.set(other);
        }

        int sum() {
            return parting == NONE ? first.sum() : first.sum() + second.sum();
        }

        boolean makes(Text from, Text to) {
            if (!any) {
                return false;
            }
            boolean isFirst = parting == NONE || holds(parting, from);
            return isFirst ? first.makes(from, to) : second.makes(from, to);
        }
    }

    /** A task: what was shown, refused and pinned, and what was learnt of it. */
    private static final class Task {
        static final int MOST = 4;
        static final int BEST = 5;

        final Text[] was = new Text[MOST];
        final Text[] shown = new Text[MOST];
        final int[] lineOf = new int[MOST];
        int examples;
        final Text[] refusedOf = new Text[MOST];
        final Text[] refused = new Text[MOST];
        int refusals;
        final int[] pins = new int[PLACES];
        final Learnt learnt = new Learnt();
        boolean standing;
        /** The programs that count for all examples; to be found again where isBestKnown is false. */
        final Program[] best = new Program[BEST];
        int bestCount;
        boolean isBestKnown;

        Task() {
            for (int i = 0; i < MOST; i++) {
                was[i] = new Text();
                shown[i] = new Text();
                refusedOf[i] = new Text();
                refused[i] = new Text();
            }
            for (int i = 0; i < PLACES; i++) {
                pins[i] = NONE;
            }
            for (int i = 0; i < BEST; i++) {
                best[i] = new Program();
            }
        }

        boolean hasExampleOn(int line) {
            for (int i = 0; i < examples && i < MOST; i++) {
                if (lineOf[i] == line) {
                    return true;
                }
            }
            return false;
        }

        /** Returns the number of the example; the caller has looked whether there is room. */
        int addExample(Text before, Text after, int line) {
            int number = Math.min(examples, MOST - 1);
            was[number].set(before);
            shown[number].set(after);
            lineOf[number] = line;
            examples = number + 1;
            isBestKnown = false;
            return number;
        }

        void addRefusal(Text before, Text after) {
            int number = Math.min(refusals, MOST - 1);
            refusedOf[number].set(before);
            refused[number].set(after);
            refusals = number + 1;
        }

        void setPin(int place, int atom) {
            if (place >= 0 && place < PLACES) {
                pins[place] = atom;
                isBestKnown = false;
            }
        }

        int pinCount() {
            int found = 0;
            for (int i = 0; i < PLACES; i++) {
                if (pins[i] != NONE) {
                    found++;
                }
            }
            return found;
        }

        /** Whether nothing that was refused comes of it; the programs that are asked have the pins already. */
        boolean bears(Program program, Text scratch) {
            for (int i = 0; i < refusals && i < MOST; i++) {
                if (program.makes(refusedOf[i], scratch) && scratch.isLike(refused[i])) {
                    return false;
                }
            }
            return true;
        }
    }

    /** A line: the text with which it came, its steps, and what they make of it. */
    private static final class Line {
        static final int MOST_STEPS = RUNS + TASKS;

        final Text came = new Text();
        final Text now = new Text();
        /** A run by its number; an example by a number below 0. */
        final int[] steps = new int[MOST_STEPS];
        int stepCount;

        static int stepOfExample(int task, int example) {
            return -1 - (task * Task.MOST + example);
        }

        static int taskOfStep(int step) {
            return (-1 - step) / Task.MOST;
        }

        static int exampleOfStep(int step) {
            return (-1 - step) % Task.MOST;
        }

        void begin(Text text) {
            came.set(text);
            now.set(text);
        }

        void addStep(int step, Text becomes) {
            if (stepCount < MOST_STEPS) {
                steps[stepCount] = step;
                stepCount++;
                now.set(becomes);
            }
        }

        boolean hasStep(int step) {
            for (int i = 0; i < stepCount && i < MOST_STEPS; i++) {
                if (steps[i] == step) {
                    return true;
                }
            }
            return false;
        }
    }

    /** A run keeps what the task had learnt then, as the task may learn anew. */
    private static final class Run {
        final Learnt learnt = new Learnt();
        boolean counts;

        void begin(Learnt by) {
            learnt.set(by);
            counts = true;
        }
    }

    /** Learns tasks, and compares the programs that count for them. */
    private static final class Learner {
        private static final int SETS = 1 << Task.MOST;
        private static final int NOT_TRIED = 0, NONE_FITS = 1, FITS = 2;

        private final Finder finder = new Finder();
        /** By the set of examples: what is learnt of them, as several conditions part them alike. */
        private final Program[] chosen = new Program[SETS];
        private final int[] tried = new int[SETS];
        private final Text made = new Text();
        private final Text madeFirst = new Text();

        Learner() {
            for (int i = 0; i < SETS; i++) {
                chosen[i] = new Program();
            }
        }

        void findBest(Task task) {
            if (task.isBestKnown) {
                return;
            }
            task.isBestKnown = true;
            task.bestCount = 0;
            if (task.examples == 0) {
                return;
            }
            finder.lookAt(task);
            finder.find(allOf(task));
            for (int i = 0; i < finder.foundCount && i < Task.BEST; i++) {
                task.best[i].set(finder.found[i]);
                task.bestCount = i + 1;
            }
        }

        void learnTask(Task task) {
            findBest(task);
            for (int i = 0; i < task.bestCount && i < Task.BEST; i++) {
                if (task.bears(task.best[i], made)) {
                    task.learnt.setOne(task.best[i]);
                    return;
                }
            }
            learnParted(task);
        }

        private void learnParted(Task task) {
            task.learnt.setNothing();
            finder.lookAt(task);
            for (int i = 0; i < SETS; i++) {
                tried[i] = NOT_TRIED;
            }
            int all = allOf(task);
            for (int condition = 0; condition < Learnt.CONDITIONS; condition++) {
                int held = heldOf(task, condition);
                int other = all & ~held;
                if (held == 0 || other == 0 || !isLearnable(task, held) || !isLearnable(task, other)) {
                    continue;
                }
                int sum = chosen[held].sum() + chosen[other].sum();
                if (!task.learnt.any || sum < task.learnt.sum()) {
                    task.learnt.setParted(condition, chosen[held], chosen[other]);
                }
            }
        }

        private static int allOf(Task task) {
            return (1 << Math.min(task.examples, Task.MOST)) - 1;
        }

        private static int heldOf(Task task, int condition) {
            int set = 0;
            for (int i = 0; i < task.examples && i < Task.MOST; i++) {
                if (Learnt.holds(condition, task.was[i])) {
                    set |= 1 << i;
                }
            }
            return set;
        }

        private boolean isLearnable(Task task, int set) {
            if (set < 0 || set >= SETS) {
                return false;
            }
            if (tried[set] == NOT_TRIED) {
                tried[set] = NONE_FITS;
                finder.find(set);
                for (int i = 0; i < finder.foundCount && tried[set] == NONE_FITS; i++) {
                    if (task.bears(finder.found[i], made)) {
                        chosen[set].set(finder.found[i]);
                        tried[set] = FITS;
                    }
                }
            }
            return tried[set] == FITS;
        }

        /** Making the same is handed on, so that each program is compared with the first fit one alone. */
        boolean bestDiffer(Task task, Text text) {
            boolean hasFirst = false;
            boolean firstMakes = false;
            for (int i = 0; i < task.bestCount && i < Task.BEST; i++) {
                if (!task.bears(task.best[i], made)) {
                    continue;
                }
                if (!hasFirst) {
                    hasFirst = true;
                    firstMakes = task.best[i].makes(text, madeFirst);
                } else if (task.best[i].makes(text, made) != firstMakes || firstMakes && !made.isLike(madeFirst)) {
                    return true;
                }
            }
            return false;
        }
    }

    /**
     * An example, looked at once for all searches: at which places of what was shown the text stands that an
     * atom makes of what the line was. These places are a set of bits.
     */
    private static final class Board {
        private static final int ENDS = Text.MOST + 1;

        final Text was = new Text();
        final Text shown = new Text();
        final int[] spots = new int[Text.SPOTS];
        private final int[] placesOfSign = new int[Sign.CODES];
        private final int[] cutPlaces = new int[Atom.WAYS * ENDS * ENDS];
        private final int[] eachPlaces = new int[Atom.EACHES];
        private final int[] eachSizes = new int[Atom.EACHES];
        private final Text made = new Text();

        void lookAt(Text before, Text after) {
            was.set(before);
            shown.set(after);
            for (int i = 0; i < Text.SPOTS; i++) {
                spots[i] = was.placeOfSpot(i);
            }
            for (int i = 0; i < Sign.CODES; i++) {
                placesOfSign[i] = 0;
            }
            for (int i = 0; i < shown.size; i++) {
                placesOfSign[shown.at(i) & 127] |= 1 << i;
            }
            for (int way = 0; way < Atom.WAYS; way++) {
                lookAtCuts(way);
            }
            for (int i = 0; i < Atom.EACHES; i++) {
                lookAtEach(i);
            }
        }

        private void lookAtCuts(int way) {
            for (int begin = 0; begin < was.size; begin++) {
                int places = -1;
                for (int end = begin + 1; end <= was.size; end++) {
                    char sign = Sign.turned(was.at(end - 1), way, end - 1 == begin);
                    places = narrowed(places, sign, end - 1 - begin);
                    cutPlaces[(way * ENDS + begin) * ENDS + end] = places;
                }
            }
        }

        private void lookAtEach(int each) {
            made.clear();
            int places = Atom.makes(Atom.CUTS + each, was, made) ? -1 : 0;
            for (int i = 0; i < made.size && places != 0; i++) {
                places = narrowed(places, made.at(i), i);
            }
            eachPlaces[each] = places;
            eachSizes[each] = made.size;
        }

        /** Those of the places that have the sign so much behind them. */
        int narrowed(int places, char sign, int behind) {
            return behind >= 0 && behind < Text.MOST ? places & placesOfSign[sign & 127] >> behind : 0;
        }

        boolean hasCut(int first, int second) {
            return spots[first] >= 0 && spots[first] < spots[second];
        }

        int placesOfCut(int first, int second, int way) {
            return hasCut(first, second) ? cutPlaces[(way * ENDS + spots[first]) * ENDS + spots[second]] : 0;
        }

        int sizeOfCut(int first, int second) {
            return spots[second] - spots[first];
        }

        int placesOfEach(int each) {
            return each >= 0 && each < Atom.EACHES ? eachPlaces[each] : 0;
        }

        int sizeOfEach(int each) {
            return each >= 0 && each < Atom.EACHES ? eachSizes[each] : 0;
        }
    }

    /**
     * Finds the programs that count for a set of examples. It asks for programs by weight, of these by how many
     * atoms, of these by their atoms in order, so that those it finds come in the order that is due, and the
     * fifth one ends it. A walk along the atoms goes on only where each example for itself still could be
     * ended with just the atoms and the weight that are left: that is told ahead, from the ends.
     */
    private static final class Finder {
        private static final int ENDS = Text.MOST + 1;
        private static final int MOST = Task.MOST;
        /** A CUT needs a place below another one, so that of two spots there is one at the most. */
        private static final int MOST_ATOMS = Text.SPOTS * (Text.SPOTS - 1) / 2 * Atom.WAYS + Atom.EACHES;
        private static final int LAYERS = 1 + PLACES * (PLACES + 1) / 2;
        private static final int MOST_SUM = PLACES * Atom.MOST_WEIGHT;

        final Program[] found = new Program[Task.BEST];
        int foundCount;

        private final Board[] boards = new Board[MOST];
        private final int[] pins = new int[PLACES];
        private boolean isPinned;
        /** The examples of the set, by their numbers; what follows has a column for each. */
        private final int[] members = new int[MOST];
        private int memberCount;
        /** The CUTs and EACHs that stand somewhere in each text shown, in order. */
        private final int[] atoms = new int[MOST_ATOMS];
        private final int[] weights = new int[MOST_ATOMS];
        private final int[] places = new int[MOST_ATOMS * MOST];
        private final int[] sizes = new int[MOST_ATOMS * MOST];
        private int atomCount;
        /** How many signs from a place of a text shown also stand in all others. */
        private final int[] shared = new int[MOST * ENDS];
        /** By layer, column and place: the weights, above the least, with which it can be ended, as bits. */
        private final long[] ways = new long[LAYERS * MOST * ENDS];
        private final int[] at = new int[(PLACES + 1) * MOST];
        private final int[] row = new int[PLACES];

        Finder() {
            for (int i = 0; i < MOST; i++) {
                boards[i] = new Board();
            }
            for (int i = 0; i < Task.BEST; i++) {
                found[i] = new Program();
            }
        }

        void lookAt(Task task) {
            for (int i = 0; i < task.examples && i < MOST; i++) {
                boards[i].lookAt(task.was[i], task.shown[i]);
            }
            isPinned = false;
            for (int i = 0; i < PLACES; i++) {
                pins[i] = task.pins[i];
                isPinned |= pins[i] != NONE;
            }
        }

        void find(int set) {
            foundCount = 0;
            memberCount = 0;
            for (int i = 0; i < MOST; i++) {
                if ((set >> i & 1) != 0) {
                    members[memberCount] = i;
                    at[memberCount] = 0;
                    memberCount++;
                }
            }
            gatherAtoms();
            gatherShared();
            gatherWays();
            for (int sum = Atom.LEAST_WEIGHT; sum <= MOST_SUM && foundCount < Task.BEST; sum++) {
                for (int size = 1; size <= PLACES && foundCount < Task.BEST; size++) {
                    if (canEnd(size, 0, sum)) {
                        walk(size, 0, sum);
                    }
                }
            }
        }

        private Board board(int column) {
            int number = column >= 0 && column < MOST ? members[column] : 0;
            return boards[number];
        }

        // ---- the atoms that may be used

        private void gatherAtoms() {
            atomCount = 0;
            for (int first = 0; first < Text.SPOTS; first++) {
                for (int second = 0; second < Text.SPOTS; second++) {
                    if (allHaveCut(first, second)) {
                        for (int way = 0; way < Atom.WAYS; way++) {
                            gatherCut(first, second, way);
                        }
                    }
                }
            }
            for (int each = 0; each < Atom.EACHES; each++) {
                gatherEach(each);
            }
        }

        private boolean allHaveCut(int first, int second) {
            for (int i = 0; i < memberCount; i++) {
                if (!board(i).hasCut(first, second)) {
                    return false;
                }
            }
            return true;
        }

        private void gatherCut(int first, int second, int way) {
            if (atomCount >= MOST_ATOMS) {
                return;
            }
            for (int i = 0; i < memberCount; i++) {
                int standing = board(i).placesOfCut(first, second, way);
                if (standing == 0) {
                    return;
                }
                places[atomCount * MOST + i] = standing;
                sizes[atomCount * MOST + i] = board(i).sizeOfCut(first, second);
            }
            addAtom(Atom.cut(first, second, way));
        }

        private void gatherEach(int each) {
            if (atomCount >= MOST_ATOMS) {
                return;
            }
            for (int i = 0; i < memberCount; i++) {
                int standing = board(i).placesOfEach(each);
                if (standing == 0) {
                    return;
                }
                places[atomCount * MOST + i] = standing;
                sizes[atomCount * MOST + i] = board(i).sizeOfEach(each);
            }
            addAtom(Atom.CUTS + each);
        }

        private void addAtom(int atom) {
            if (atomCount < MOST_ATOMS) {
                atoms[atomCount] = atom;
                weights[atomCount] = Atom.weightOf(atom);
                atomCount++;
            }
        }

        private void gatherShared() {
            for (int i = 0; i < memberCount; i++) {
                Text text = board(i).shown;
                for (int place = 0; place <= text.size; place++) {
                    int least = Math.min(Atom.MOST_SIGNS, text.size - place);
                    for (int j = 0; j < memberCount; j++) {
                        least = Math.min(least, sharedWith(board(j), text, place, least));
                    }
                    shared[i * ENDS + place] = least;
                }
            }
        }

        private static int sharedWith(Board other, Text text, int place, int most) {
            int standing = -1;
            for (int i = 0; i < most; i++) {
                standing = other.narrowed(standing, text.at(place + i), i);
                if (standing == 0) {
                    return i;
                }
            }
            return most;
        }

        // ---- with what weights each example could be ended

        /** Without pins, all programs with as many atoms left are alike; with pins, their places matter. */
        private int layerOf(int size, int place) {
            if (place >= size) {
                return 0;
            }
            return isPinned ? 1 + size * (size - 1) / 2 + place : size - place;
        }

        private void gatherWays() {
            for (int i = 0; i < memberCount; i++) {
                for (int place = 0; place < ENDS; place++) {
                    ways[i * ENDS + place] = place == board(i).shown.size ? 1L : 0L;
                }
            }
            for (int size = 1; size <= PLACES; size++) {
                for (int place = isPinned ? size - 1 : 0; place >= 0; place--) {
                    gatherLayer(layerOf(size, place), layerOf(size, place + 1), pins[place]);
                }
            }
        }

        private void gatherLayer(int layer, int next, int pin) {
            for (int i = 0; i < memberCount; i++) {
                int here = (layer * MOST + i) * ENDS;
                int then = (next * MOST + i) * ENDS;
                for (int place = 0; place < ENDS; place++) {
                    ways[here + place] = 0;
                }
                gatherConstWays(i, here, then, pin);
                for (int atom = 0; atom < atomCount; atom++) {
                    if (pin == NONE || pin == atoms[atom]) {
                        gatherAtomWays(atom, i, here, then);
                    }
                }
            }
        }

        private void gatherConstWays(int column, int here, int then, int pin) {
            Text text = board(column).shown;
            for (int place = 0; place < text.size; place++) {
                int atom = 0;
                for (int n = 1; n <= shared[column * ENDS + place]; n++) {
                    atom = Atom.withSign(atom, n - 1, text.at(place + n - 1));
                    if (pin == NONE || pin == atom) {
                        ways[here + place] |= ways[then + place + n] << 3 * n;
                    }
                }
            }
        }

        private void gatherAtomWays(int atom, int column, int here, int then) {
            int left = places[atom * MOST + column];
            int size = sizes[atom * MOST + column];
            int above = weights[atom] - Atom.LEAST_WEIGHT;
            for (int n = Integer.bitCount(left); n > 0; n--) {
                int lowest = left & -left;
                int place = Integer.bitCount(lowest - 1);
                left -= lowest;
                ways[here + place] |= ways[then + place + size] << above;
            }
        }

        /** Whether each example could be ended from where it stands, by the atoms from a place on. */
        private boolean canEnd(int size, int place, int rest) {
            int above = rest - (size - place) * Atom.LEAST_WEIGHT;
            if (above < 0 || above > MOST_SUM - Atom.LEAST_WEIGHT) {
                return false;
            }
            int layer = layerOf(size, place) * MOST;
            for (int i = 0; i < memberCount; i++) {
                if ((ways[(layer + i) * ENDS + at[place * MOST + i]] >> above & 1) == 0) {
                    return false;
                }
            }
            return true;
        }

        // ---- the walk along the atoms

        private void walk(int size, int place, int rest) {
            if (place < 0 || place >= PLACES) {
                return;
            }
            walkConsts(size, place, rest);
            int pin = pins[place];
            for (int i = 0; i < atomCount && foundCount < Task.BEST; i++) {
                if ((pin == NONE || pin == atoms[i]) && stepsOver(i, place)) {
                    goOn(size, place, rest - weights[i], atoms[i]);
                }
            }
        }

        private void walkConsts(int size, int place, int rest) {
            int atom = 0;
            for (int n = 1; n <= Atom.MOST_SIGNS && foundCount < Task.BEST; n++) {
                char sign = board(0).shown.at(at[place * MOST] + n - 1);
                for (int i = 0; i < memberCount; i++) {
                    int from = at[place * MOST + i];
                    if (sign == 0 || board(i).shown.at(from + n - 1) != sign) {
                        return;
                    }
                    at[(place + 1) * MOST + i] = from + n;
                }
                atom = Atom.withSign(atom, n - 1, sign);
                if (pins[place] == NONE || pins[place] == atom) {
                    goOn(size, place, rest - Atom.weightOf(atom), atom);
                }
            }
        }

        /** Whether the atom stands in all texts shown where they are; then it tells where they are behind it. */
        private boolean stepsOver(int atom, int place) {
            for (int i = 0; i < memberCount; i++) {
                int from = at[place * MOST + i];
                if ((places[atom * MOST + i] >> from & 1) == 0) {
                    return false;
                }
                at[(place + 1) * MOST + i] = from + sizes[atom * MOST + i];
            }
            return true;
        }

        private void goOn(int size, int place, int rest, int atom) {
            if (!canEnd(size, place + 1, rest)) {
                return;
            }
            row[place] = atom;
            if (place + 1 < size) {
                walk(size, place + 1, rest);
            } else if (foundCount < Task.BEST) {
                found[foundCount].setRow(row, size);
                foundCount++;
            }
        }
    }
}
