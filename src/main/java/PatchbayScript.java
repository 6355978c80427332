/** A language of editing macros that is learnt from lines; ../shared/DOC.md promises what each call does. */
public final class PatchbayScript {
    public static final int NONE = -1;
    public static final int CONST = 0, CUT = 1, EACH = 2;
    public static final int STOP = 0, SKIP = 1, ASK = 2;

    private static final int TASKS = 3;
    private static final int LINES = 8;
    private static final int RUNS = 30;
    private static final int PLACES = 4;

    private final Text draft;
    private final Text made;
    private final Task[] tasks;
    private final Line[] lines;
    /** What the task had learnt when it ran, by run, as it may learn anew; and whether the run counts. */
    private final Learnt[] ranBy;
    private final boolean[] runCounts;
    private final Learner learner;
    private int lineCount;
    private int runCount;
    private int askedLines;

    public PatchbayScript() {
        draft = new Text();
        made = new Text();
        tasks = new Task[TASKS];
        for (int i = 0; i < TASKS; i++) {
            tasks[i] = new Task();
        }
        lines = new Line[LINES];
        for (int i = 0; i < LINES; i++) {
            lines[i] = new Line();
        }
        ranBy = new Learnt[RUNS];
        for (int i = 0; i < RUNS; i++) {
            ranBy[i] = new Learnt();
        }
        runCounts = new boolean[RUNS];
        learner = new Learner();
    }

    // ---- the draft, lines

    public int type(char sign) throws IllegalArgumentException, IllegalStateException {
        if (!Sign.isOfTexts(sign)) {
            throw new IllegalArgumentException("texts have no such sign");
        }
        if (draft.size >= Text.MOST) {
            throw new IllegalStateException("the draft is full");
        }
        draft.add(sign);
        return draft.size;
    }

    public int line() throws IllegalStateException {
        if (lineCount >= LINES) {
            throw new IllegalStateException("there are as many lines as there may be");
        }
        if (runCount + standingTasks() > RUNS) {
            throw new IllegalStateException("there would be too many runs");
        }
        int number = lineCount;
        lineCount++;
        lines[number].begin(draft);
        draft.clear();
        for (int i = 0; i < TASKS; i++) {
            if (tasks[i].standing) {
                runOn(tasks[i], number, number, SKIP);
            }
        }
        return number;
    }

    public int length(int line) throws IndexOutOfBoundsException {
        needLine(line);
        return lines[line].now.size;
    }

    public char signAt(int line, int place) throws IndexOutOfBoundsException {
        needLine(line);
        Text text = lines[line].now;
        if (place < 0 || place >= text.size) {
            throw new IndexOutOfBoundsException("the text has no such sign");
        }
        return text.at(place);
    }

    public int placeOf(int line, int spot) throws IndexOutOfBoundsException, IllegalArgumentException {
        needLine(line);
        if (spot < 0 || spot >= Text.SPOTS) {
            throw new IllegalArgumentException("there is no such spot");
        }
        return lines[line].now.placeOfSpot(spot);
    }

    // ---- showing, refusing, pinning, learning

    public int show(int task, int line) throws IndexOutOfBoundsException, IllegalStateException {
        needTask(task);
        needLine(line);
        Task shownTo = tasks[task];
        if (draft.size == 0) {
            throw new IllegalStateException("nothing is shown");
        }
        if (shownTo.examples >= Task.MOST) {
            throw new IllegalStateException("the task has as many examples as it may have");
        }
        if (shownTo.hasExampleOn(line)) {
            throw new IllegalStateException("the task has an example on this line");
        }
        int example = shownTo.addExample(lines[line].now, draft, line);
        lines[line].addStep(Line.stepOfExample(task, example), draft);
        draft.clear();
        return shownTo.examples;
    }

    public int refuse(int task, int line) throws IndexOutOfBoundsException, IllegalStateException {
        needTask(task);
        needLine(line);
        Task refusing = tasks[task];
        Text text = lines[line].now;
        if (!refusing.learnt.makes(text, made)) {
            throw new IllegalStateException("nothing is made that could be refused");
        }
        if (refusing.refusals >= Task.MOST) {
            throw new IllegalStateException("the task has as many refusals as it may have");
        }
        refusing.addRefusal(text, made);
        return refusing.refusals;
    }

    public int pin(int task, int place, int kind, int a, int b, int c)
            throws IndexOutOfBoundsException, IllegalArgumentException, IllegalStateException {
        needTask(task);
        if (place < 0 || place >= PLACES) {
            throw new IndexOutOfBoundsException("a program has no such place");
        }
        if (kind < NONE || kind > EACH) {
            throw new IllegalArgumentException("there is no such kind of atoms");
        }
        if (kind == CUT && !Atom.isCut(a, b, c) || kind == EACH && !Atom.isEach(a, b, c)) {
            throw new IllegalArgumentException("there is no such atom");
        }
        if (kind == CONST && (draft.size == 0 || draft.size > Atom.MOST_SIGNS)) {
            throw new IllegalStateException("the draft is no CONST");
        }
        tasks[task].setPin(place, atomToPin(kind, a, b, c));
        if (kind == CONST) {
            draft.clear();
        }
        return tasks[task].pinCount();
    }

    public int learn(int task) throws IndexOutOfBoundsException, IllegalStateException {
        needTask(task);
        if (tasks[task].examples == 0) {
            throw new IllegalStateException("the task has no examples");
        }
        learner.findBest(tasks[task]);
        if (!learner.learnBest(tasks[task])) {
            learner.learnParted(tasks[task]);
        }
        if (!tasks[task].learnt.any) {
            tasks[task].standing = false;
            return NONE;
        }
        return tasks[task].learnt.sum();
    }

    public int count(int task) throws IndexOutOfBoundsException {
        needTask(task);
        learner.findBest(tasks[task]);
        return tasks[task].bestCount;
    }

    public int weight(int task, int which) throws IndexOutOfBoundsException {
        needTask(task);
        learner.findBest(tasks[task]);
        if (which < 0 || which >= tasks[task].bestCount) {
            throw new IndexOutOfBoundsException("not so many programs count");
        }
        return tasks[task].best[which].sum();
    }

    public int question(int task) throws IndexOutOfBoundsException {
        needTask(task);
        learner.findBest(tasks[task]);
        for (int i = 0; i < lineCount; i++) {
            if (!tasks[task].hasExampleOn(i) && learner.bestDiffer(tasks[task], lines[i].now)) {
                return i;
            }
        }
        return NONE;
    }

    // ---- what is learnt

    public int condition(int task) throws IndexOutOfBoundsException {
        needTask(task);
        return tasks[task].learnt.any ? tasks[task].learnt.parting : NONE;
    }

    public int atomAt(int task, boolean isElse, int place, int what)
            throws IndexOutOfBoundsException, IllegalArgumentException {
        needTask(task);
        if (place < 0) {
            throw new IndexOutOfBoundsException("a program has no such place");
        }
        if (what < 0 || what > Atom.SUM) {
            throw new IllegalArgumentException("an atom has no such number");
        }
        Learnt learnt = tasks[task].learnt;
        if (!learnt.any || isElse && learnt.parting == NONE) {
            return NONE;
        }
        Program program = isElse ? learnt.second : learnt.first;
        return place < program.size && place < PLACES ? Atom.numberOf(program.atoms[place], what) : NONE;
    }

    public char preview(int task, int line, int place) throws IndexOutOfBoundsException {
        needTask(task);
        needLine(line);
        if (place < 0) {
            throw new IndexOutOfBoundsException("a text has no such place");
        }
        if (!tasks[task].learnt.makes(lines[line].now, made)) {
            return '?';
        }
        return place < made.size ? made.at(place) : '!';
    }

    // ---- runs

    public int run(int task, int from, int to, int way)
            throws IndexOutOfBoundsException, IllegalArgumentException, IllegalStateException {
        needTask(task);
        needLine(from);
        needLine(to);
        if (to < from || way < STOP || way > ASK) {
            throw new IllegalArgumentException("there is no such run");
        }
        if (!tasks[task].learnt.any) {
            throw new IllegalStateException("the task has learnt nothing");
        }
        if (runCount >= RUNS) {
            throw new IllegalStateException("there were as many runs as there may be");
        }
        return runOn(tasks[task], from, to, way);
    }

    public int runs() {
        return runCount;
    }

    public boolean undo(int run) throws IndexOutOfBoundsException {
        if (run < 0 || run >= runCount || run >= RUNS) {
            throw new IndexOutOfBoundsException("there is no such run");
        }
        runCounts[run] = !runCounts[run];
        for (int i = 0; i < lineCount; i++) {
            if (lines[i].hasStep(run)) {
                makeAgain(lines[i]);
            }
        }
        return runCounts[run];
    }

    public boolean stand(int task, boolean is) throws IndexOutOfBoundsException, IllegalStateException {
        needTask(task);
        if (is && !tasks[task].learnt.any) {
            throw new IllegalStateException("the task has learnt nothing");
        }
        boolean was = tasks[task].standing;
        tasks[task].standing = is;
        return was;
    }

    public int asked() {
        int told = askedLines;
        askedLines = 0;
        return told;
    }

    // ---- what the calls share

    private void needTask(int task) {
        if (task < 0 || task >= TASKS) {
            throw new IndexOutOfBoundsException("there is no such task");
        }
    }

    private void needLine(int line) {
        if (line < 0 || line >= lineCount || line >= LINES) {
            throw new IndexOutOfBoundsException("there is no such line");
        }
    }

    private int standingTasks() {
        int found = 0;
        for (int i = 0; i < TASKS; i++) {
            if (tasks[i].standing) {
                found++;
            }
        }
        return found;
    }

    private int atomToPin(int kind, int a, int b, int c) {
        switch (kind) {
            case CONST:
                return Atom.constOf(draft);
            case CUT:
                return Atom.cut(a, b, c);
            case EACH:
                return Atom.each(a, b, c);
            default:
                return NONE;
        }
    }

    /** Both lines stand, and there is room for a run: the callers have looked. */
    private int runOn(Task task, int from, int to, int way) {
        if (runCount >= RUNS) {
            return 0;
        }
        int number = runCount;
        runCount++;
        ranBy[number].set(task.learnt);
        runCounts[number] = true;
        int having = 0;
        for (int i = from; i <= to && i < LINES; i++) {
            if (task.hasExampleOn(i)) {
                continue;
            }
            if (task.learnt.makes(lines[i].now, made)) {
                lines[i].addStep(number, made);
                having++;
            } else if (way == STOP) {
                break;
            } else if (way == ASK) {
                askedLines |= 1 << i;
            }
        }
        return having;
    }

    private void makeAgain(Line line) {
        line.now.set(line.came);
        for (int i = 0; i < line.stepCount; i++) {
            int step = line.steps[i];
            if (step < 0) {
                line.now.set(shownAt(step));
            } else if (step < RUNS && runCounts[step] && ranBy[step].makes(line.now, made)) {
                line.now.set(made);
            }
        }
    }

    private Text shownAt(int step) {
        int task = Line.taskOfStep(step);
        int example = Line.exampleOfStep(step);
        return task < TASKS ? tasks[task].shown[example] : made;
    }

    /** The signs that texts have, and their classes. */
    private static final class Sign {
        static final int CLASSES = 4;
        static final int CODES = 128;
        static final int MARKS = 6;

        static boolean isOf(char sign, int kind) {
            boolean isCapital = sign >= 'A' && sign <= 'Z';
            switch (kind) {
                case 0:
                    return sign >= '0' && sign <= '9';
                case 1:
                    return isCapital || sign >= 'a' && sign <= 'z';
                case 2:
                    return isCapital;
                default:
                    return sign != ' ';
            }
        }

        static boolean isOfTexts(char sign) {
            if (isOf(sign, 0) || isOf(sign, 1)) {
                return true;
            }
            for (int mark = 1; mark < MARKS; mark++) {
                if (sign == markOf(mark)) {
                    return true;
                }
            }
            return false;
        }

        static char markOf(int mark) {
            switch (mark) {
                case 1:
                    return ' ';
                case 2:
                    return ',';
                case 3:
                    return '.';
                case 4:
                    return '-';
                default:
                    return '/';
            }
        }

        /** A sign of a CUT by its way, which asks whether it is the first one. */
        static char turned(char sign, int way, boolean isFirst) {
            boolean toCapital = way == 1 || way == 3 && isFirst;
            boolean toSmall = way == 2 || way == 3 && !isFirst;
            if (toCapital && sign >= 'a' && sign <= 'z') {
                return (char) (sign - 'a' + 'A');
            }
            if (toSmall && sign >= 'A' && sign <= 'Z') {
                return (char) (sign - 'A' + 'a');
            }
            return sign;
        }
    }

    /** A text; its rows are made once, as nothing that is made is ever given back. */
    private static final class Text {
        static final int MOST = 20;
        static final int SPOTS = 30;
        static final int RUN_SPOTS = 6;

        private final char[] signs = new char[MOST];
        /** By class: the places of its signs, as a set of bits. */
        private final int[] placesOf = new int[Sign.CLASSES];
        int size;

        /** Says whether there was room for the sign. */
        boolean add(char sign) {
            if (size < 0 || size >= MOST) {
                return false;
            }
            signs[size] = sign;
            for (int kind = 0; kind < Sign.CLASSES; kind++) {
                if (Sign.isOf(sign, kind)) {
                    placesOf[kind] |= 1 << size;
                }
            }
            size++;
            return true;
        }

        char at(int place) {
            return place >= 0 && place < size && place < MOST ? signs[place] : 0;
        }

        void clear() {
            size = 0;
            for (int kind = 0; kind < Sign.CLASSES; kind++) {
                placesOf[kind] = 0;
            }
        }

        void set(Text other) {
            size = other.size;
            for (int i = 0; i < MOST; i++) {
                signs[i] = other.signs[i];
            }
            for (int kind = 0; kind < Sign.CLASSES; kind++) {
                placesOf[kind] = other.placesOf[kind];
            }
        }

        boolean isLike(Text other) {
            if (size != other.size) {
                return false;
            }
            for (int i = 0; i < size && i < MOST; i++) {
                if (signs[i] != other.signs[i]) {
                    return false;
                }
            }
            return true;
        }

        boolean has(char sign) {
            for (int i = 0; i < size && i < MOST; i++) {
                if (signs[i] == sign) {
                    return true;
                }
            }
            return false;
        }

        /** The places of a class: of the part 0 all, 1 where its runs begin, 2 the last ones of its runs. */
        int placesOfRuns(int kind, int part) {
            int places = kind >= 0 && kind < Sign.CLASSES ? placesOf[kind] : 0;
            switch (part) {
                case 1:
                    return places & ~(places << 1);
                case 2:
                    return places & ~(places >> 1);
                default:
                    return places;
            }
        }

        int placeOfSpot(int spot) {
            if (spot < 0 || spot >= SPOTS) {
                return NONE;
            }
            if (spot < 3) {
                return spot <= size ? spot : NONE;
            }
            if (spot < RUN_SPOTS) {
                return spot - 3 <= size ? size - (spot - 3) : NONE;
            }
            int kind = (spot - RUN_SPOTS) / 6;
            boolean isEnd = (spot - RUN_SPOTS) % 6 >= 3;
            int place = placeOfRun(placesOfRuns(kind, isEnd ? 2 : 1), spot % 3);
            return isEnd && place != NONE ? place + 1 : place;
        }

        /** Which: 0 the first one of the places, 1 the second one, 2 the last one. */
        private static int placeOfRun(int places, int which) {
            int last = NONE;
            int seen = 0;
            for (int i = 0; i < MOST; i++) {
                if ((places >> i & 1) != 0) {
                    if (seen == which && which < 2) {
                        return i;
                    }
                    last = i;
                    seen++;
                }
            }
            return which == 2 ? last : NONE;
        }
    }

    /**
     * Atoms, each as one int, so that programs are rows of ints: the CUTs from 0, the EACHs behind them, in
     * their order; a CONST has its signs, seven bits each, below a bit that no other atom has.
     */
    private static final class Atom {
        static final int MOST_SIGNS = 4;
        static final int WAYS = 4;
        static final int PARTS = 3;
        static final int CUTS = Text.SPOTS * Text.SPOTS * WAYS;
        static final int EACHES = Sign.CLASSES * PARTS * Sign.MARKS;
        static final int LEAST_WEIGHT = 4;
        static final int MOST_WEIGHT = 16;
        static final int SUM = 4;

        private static final int IS_CONST = 1 << 28;

        static boolean isCut(int a, int b, int c) {
            return a >= 0 && a < Text.SPOTS && b >= 0 && b < Text.SPOTS && c >= 0 && c < WAYS;
        }

        static boolean isEach(int a, int b, int c) {
            return a >= 0 && a < Sign.CLASSES && b >= 0 && b < PARTS && c >= 0 && c < Sign.MARKS;
        }

        static int cut(int a, int b, int c) {
            return (a * Text.SPOTS + b) * WAYS + c;
        }

        static int each(int a, int b, int c) {
            return CUTS + (a * PARTS + b) * Sign.MARKS + c;
        }

        static int constOf(Text text) {
            int atom = 0;
            for (int i = 0; i < MOST_SIGNS && i < text.size; i++) {
                atom = withSign(atom, i, text.at(i));
            }
            return atom;
        }

        static int withSign(int atom, int place, char sign) {
            return atom | IS_CONST | sign << 7 * (MOST_SIGNS - 1 - place);
        }

        private static char signOf(int atom, int place) {
            return place < MOST_SIGNS ? (char) (atom >> 7 * (MOST_SIGNS - 1 - place) & 127) : 0;
        }

        private static int signsOf(int atom) {
            int found = 0;
            for (int i = 0; i < MOST_SIGNS; i++) {
                if ((atom >> 7 * i & 127) != 0) {
                    found++;
                }
            }
            return found;
        }

        static int kindOf(int atom) {
            if ((atom & IS_CONST) != 0) {
                return CONST;
            }
            return atom < CUTS ? CUT : EACH;
        }

        /** What: 1, 2, 3 for a, b, c. */
        private static int partOf(int atom, int what) {
            return kindOf(atom) == CUT ? partOfCut(atom, what) : partOfEach(atom - CUTS, what);
        }

        private static int partOfCut(int cut, int what) {
            switch (what) {
                case 1:
                    return cut / WAYS / Text.SPOTS;
                case 2:
                    return cut / WAYS % Text.SPOTS;
                default:
                    return cut % WAYS;
            }
        }

        private static int partOfEach(int each, int what) {
            switch (what) {
                case 1:
                    return each / Sign.MARKS / PARTS;
                case 2:
                    return each / Sign.MARKS % PARTS;
                default:
                    return each % Sign.MARKS;
            }
        }

        private static int weightOfSpot(int spot) {
            if (spot < Text.RUN_SPOTS) {
                return 3 + spot % 3;
            }
            return spot % 3 == 1 ? 2 : 1;
        }

        static int weightOfConst(int signs) {
            return 4 + 3 * signs;
        }

        static int weightOfCut(int a, int b, int c) {
            return 2 + weightOfSpot(a) + weightOfSpot(b) + (c == 0 ? 0 : 2);
        }

        private static int weightOfEach(int b, int c) {
            return 6 + (b == 0 ? 0 : 1) + (c == 0 ? 0 : 1);
        }

        static int weightOf(int atom) {
            switch (kindOf(atom)) {
                case CONST:
                    return weightOfConst(signsOf(atom));
                case CUT:
                    return weightOfCut(partOf(atom, 1), partOf(atom, 2), partOf(atom, 3));
                default:
                    return weightOfEach(partOf(atom, 2), partOf(atom, 3));
            }
        }

        static int numberOf(int atom, int what) {
            if (what == 0) {
                return kindOf(atom);
            }
            if (what == SUM) {
                return weightOf(atom);
            }
            return kindOf(atom) == CONST ? signOf(atom, what - 1) : partOf(atom, what);
        }

        // What an atom makes goes behind a text; they say false where the atom fails, or the text has no room.

        static boolean makesConst(int atom, Text to) {
            int signs = signsOf(atom);
            for (int i = 0; i < signs; i++) {
                if (!to.add(signOf(atom, i))) {
                    return false;
                }
            }
            return true;
        }

        static boolean makesCut(int atom, Text from, Text to) {
            int begin = from.placeOfSpot(partOf(atom, 1));
            int end = from.placeOfSpot(partOf(atom, 2));
            int way = partOf(atom, 3);
            if (begin < 0 || begin >= end) {
                return false;
            }
            for (int i = begin; i < end; i++) {
                if (!to.add(Sign.turned(from.at(i), way, i == begin))) {
                    return false;
                }
            }
            return true;
        }

        static boolean makesEach(int atom, Text from, Text to) {
            int taken = from.placesOfRuns(partOf(atom, 1), partOf(atom, 2));
            int begins = from.placesOfRuns(partOf(atom, 1), 1);
            int mark = partOf(atom, 3);
            int first = begins & -begins;
            for (int i = 0; i < from.size; i++) {
                int here = 1 << i;
                if (mark != 0 && (begins & here & ~first) != 0 && !to.add(Sign.markOf(mark))) {
                    return false;
                }
                if ((taken & here) != 0 && !to.add(from.at(i))) {
                    return false;
                }
            }
            return begins != 0;
        }
    }

    /** A row of atoms. */
    private static final class Program {
        final int[] atoms = new int[PLACES];
        int size;

        void set(Program other) {
            size = other.size;
            for (int i = 0; i < PLACES; i++) {
                atoms[i] = other.atoms[i];
            }
        }

        void setRow(int[] row, int count) {
            size = Math.min(count, PLACES);
            for (int i = 0; i < size && i < row.length; i++) {
                atoms[i] = row[i];
            }
        }

        int sum() {
            int sum = 0;
            for (int i = 0; i < size && i < PLACES; i++) {
                sum += Atom.weightOf(atoms[i]);
            }
            return sum;
        }

        /** The text made must be another one than that of which it is made. */
        boolean makes(Text from, Text to) {
            to.clear();
            boolean isMade = true;
            for (int i = 0; i < size && i < PLACES && isMade; i++) {
                switch (Atom.kindOf(atoms[i])) {
                    case CONST:
                        isMade = Atom.makesConst(atoms[i], to);
                        break;
                    case CUT:
                        isMade = Atom.makesCut(atoms[i], from, to);
                        break;
                    default:
                        isMade = Atom.makesEach(atoms[i], from, to);
                        break;
                }
            }
            return isMade;
        }
    }

    /** What a task has learnt: nothing, one program, or two that a condition parts. */
    private static final class Learnt {
        static final int CONDITIONS = 21;

        final Program first = new Program();
        final Program second = new Program();
        boolean any;
        int parting = NONE;

        static boolean holds(int condition, Text text) {
            if (condition < 12) {
                return Integer.bitCount(text.placesOfRuns(condition / 3, 1)) > condition % 3;
            }
            if (condition < 16) {
                return (text.placesOfRuns(condition - 12, 0) & 1) != 0;
            }
            return text.has(Sign.markOf(condition - 15));
        }

        void set(Learnt other) {
            any = other.any;
            parting = other.parting;
            first.set(other.first);
            second.set(other.second);
        }

        void setNothing() {
            any = false;
            parting = NONE;
        }

        void setOne(Program program) {
            any = true;
            parting = NONE;
            first.set(program);
        }

        void setParted(int condition, Program held, Program other) {
            any = true;
            parting = condition;
            first.set(held);
            second.set(other);
        }

        int sum() {
            return parting == NONE ? first.sum() : first.sum() + second.sum();
        }

        boolean makes(Text from, Text to) {
            if (!any) {
                return false;
            }
            boolean isFirst = parting == NONE || holds(parting, from);
            return isFirst ? first.makes(from, to) : second.makes(from, to);
        }
    }

    /** A task: what was shown, refused and pinned, and what was learnt of it. */
    private static final class Task {
        static final int MOST = 4;
        static final int BEST = 5;

        final Text[] was = new Text[MOST];
        final Text[] shown = new Text[MOST];
        final int[] lineOf = new int[MOST];
        int examples;
        final Text[] refusedOf = new Text[MOST];
        final Text[] refused = new Text[MOST];
        int refusals;
        final int[] pins = new int[PLACES];
        final Learnt learnt = new Learnt();
        boolean standing;
        /** The programs that count for all examples; to be found again where isBestKnown is false. */
        final Program[] best = new Program[BEST];
        int bestCount;
        boolean isBestKnown;

        Task() {
            for (int i = 0; i < MOST; i++) {
                was[i] = new Text();
                shown[i] = new Text();
                refusedOf[i] = new Text();
                refused[i] = new Text();
            }
            for (int i = 0; i < PLACES; i++) {
                pins[i] = NONE;
            }
            for (int i = 0; i < BEST; i++) {
                best[i] = new Program();
            }
        }

        boolean hasExampleOn(int line) {
            for (int i = 0; i < examples && i < MOST; i++) {
                if (lineOf[i] == line) {
                    return true;
                }
            }
            return false;
        }

        /** Returns the number of the example; the caller has looked whether there is room. */
        int addExample(Text before, Text after, int line) {
            int number = Math.min(examples, MOST - 1);
            was[number].set(before);
            shown[number].set(after);
            lineOf[number] = line;
            examples = number + 1;
            isBestKnown = false;
            return number;
        }

        void addRefusal(Text before, Text after) {
            int number = Math.min(refusals, MOST - 1);
            refusedOf[number].set(before);
            refused[number].set(after);
            refusals = number + 1;
        }

        void setPin(int place, int atom) {
            if (place >= 0 && place < PLACES) {
                pins[place] = atom;
                isBestKnown = false;
            }
        }

        int pinCount() {
            int found = 0;
            for (int i = 0; i < PLACES; i++) {
                if (pins[i] != NONE) {
                    found++;
                }
            }
            return found;
        }

        /** Whether nothing that was refused comes of it; the programs that are asked have the pins already. */
        boolean bears(Program program, Text scratch) {
            for (int i = 0; i < refusals && i < MOST; i++) {
                if (program.makes(refusedOf[i], scratch) && scratch.isLike(refused[i])) {
                    return false;
                }
            }
            return true;
        }
    }

    /** A line: the text with which it came, its steps, and what they make of it. */
    private static final class Line {
        static final int MOST_STEPS = RUNS + TASKS;

        final Text came = new Text();
        final Text now = new Text();
        /** A run by its number; an example by a number below 0. */
        final int[] steps = new int[MOST_STEPS];
        int stepCount;

        static int stepOfExample(int task, int example) {
            return -1 - (task * Task.MOST + example);
        }

        static int taskOfStep(int step) {
            return (-1 - step) / Task.MOST;
        }

        static int exampleOfStep(int step) {
            return (-1 - step) % Task.MOST;
        }

        void begin(Text text) {
            came.set(text);
            now.set(text);
        }

        void addStep(int step, Text becomes) {
            if (stepCount < MOST_STEPS) {
                steps[stepCount] = step;
                stepCount++;
                now.set(becomes);
            }
        }

        boolean hasStep(int step) {
            for (int i = 0; i < stepCount && i < MOST_STEPS; i++) {
                if (steps[i] == step) {
                    return true;
                }
            }
            return false;
        }
    }

    /** Learns tasks, and compares the programs that count for them. */
    private static final class Learner {
        private static final int SETS = 1 << Task.MOST;
        private static final int NOT_TRIED = 0, NONE_FITS = 1, FITS = 2;

        private final Finder finder = new Finder();
        /** By the set of examples: what is learnt of them, as several conditions part them alike. */
        private final Program[] chosen = new Program[SETS];
        private final int[] tried = new int[SETS];
        private final Text made = new Text();
        private final Text madeFirst = new Text();

        Learner() {
            for (int i = 0; i < SETS; i++) {
                chosen[i] = new Program();
            }
        }

        void findBest(Task task) {
            if (task.isBestKnown) {
                return;
            }
            task.isBestKnown = true;
            task.bestCount = 0;
            if (task.examples == 0) {
                return;
            }
            finder.lookAt(task);
            finder.find(allOf(task));
            for (int i = 0; i < finder.foundCount && i < Task.BEST; i++) {
                task.best[i].set(finder.found[i]);
                task.bestCount = i + 1;
            }
        }

        /** Says whether one program is learnt for all examples. */
        boolean learnBest(Task task) {
            for (int i = 0; i < task.bestCount && i < Task.BEST; i++) {
                if (task.bears(task.best[i], made)) {
                    task.learnt.setOne(task.best[i]);
                    return true;
                }
            }
            return false;
        }

        void learnParted(Task task) {
            task.learnt.setNothing();
            finder.lookAt(task);
            for (int i = 0; i < SETS; i++) {
                tried[i] = NOT_TRIED;
            }
            int all = allOf(task);
            for (int condition = 0; condition < Learnt.CONDITIONS; condition++) {
                int held = heldOf(task, condition);
                int other = all & ~held;
                if (held == 0 || other == 0 || !isLearnable(task, held) || !isLearnable(task, other)) {
                    continue;
                }
                int sum = chosen[held].sum() + chosen[other].sum();
                if (!task.learnt.any || sum < task.learnt.sum()) {
                    task.learnt.setParted(condition, chosen[held], chosen[other]);
                }
            }
        }

        private static int allOf(Task task) {
            return (1 << Math.min(task.examples, Task.MOST)) - 1;
        }

        private static int heldOf(Task task, int condition) {
            int set = 0;
            for (int i = 0; i < task.examples && i < Task.MOST; i++) {
                if (Learnt.holds(condition, task.was[i])) {
                    set |= 1 << i;
                }
            }
            return set;
        }

        private boolean isLearnable(Task task, int set) {
            if (set < 0 || set >= SETS) {
                return false;
            }
            if (tried[set] == NOT_TRIED) {
                tried[set] = NONE_FITS;
                finder.find(set);
                for (int i = 0; i < finder.foundCount && tried[set] == NONE_FITS; i++) {
                    if (task.bears(finder.found[i], made)) {
                        chosen[set].set(finder.found[i]);
                        tried[set] = FITS;
                    }
                }
            }
            return tried[set] == FITS;
        }

        /** Making the same is handed on, so that each program is compared with the first fit one alone. */
        boolean bestDiffer(Task task, Text text) {
            boolean hasFirst = false;
            boolean firstMakes = false;
            for (int i = 0; i < task.bestCount && i < Task.BEST; i++) {
                if (!task.bears(task.best[i], made)) {
                    continue;
                }
                if (!hasFirst) {
                    hasFirst = true;
                    firstMakes = task.best[i].makes(text, madeFirst);
                } else if (task.best[i].makes(text, made) != firstMakes || firstMakes && !made.isLike(madeFirst)) {
                    return true;
                }
            }
            return false;
        }
    }

    /**
     * An example, looked at once for all searches: at which places of what was shown the text stands that an
     * atom makes of what the line was. These places are a set of bits.
     */
    private static final class Board {
        private static final int ENDS = Text.MOST + 1;

        final Text was = new Text();
        final Text shown = new Text();
        final int[] spots = new int[Text.SPOTS];
        private final int[] placesOfSign = new int[Sign.CODES];
        private final int[] cutPlaces = new int[Atom.WAYS * ENDS * ENDS];
        private final int[] eachPlaces = new int[Atom.EACHES];
        private final int[] eachSizes = new int[Atom.EACHES];
        private final Text made = new Text();

        void lookAt(Text before, Text after) {
            was.set(before);
            shown.set(after);
            for (int i = 0; i < Text.SPOTS; i++) {
                spots[i] = was.placeOfSpot(i);
            }
            for (int i = 0; i < Sign.CODES; i++) {
                placesOfSign[i] = 0;
            }
            for (int i = 0; i < shown.size; i++) {
                placesOfSign[shown.at(i) & 127] |= 1 << i;
            }
            for (int way = 0; way < Atom.WAYS; way++) {
                lookAtCuts(way);
            }
            for (int i = 0; i < Atom.EACHES; i++) {
                lookAtEach(i);
            }
        }

        private void lookAtCuts(int way) {
            for (int begin = 0; begin < was.size; begin++) {
                int places = -1;
                for (int end = begin + 1; end <= was.size; end++) {
                    char sign = Sign.turned(was.at(end - 1), way, end - 1 == begin);
                    places = narrowed(places, sign, end - 1 - begin);
                    cutPlaces[(way * ENDS + begin) * ENDS + end] = places;
                }
            }
        }

        private void lookAtEach(int each) {
            made.clear();
            int places = Atom.makesEach(Atom.CUTS + each, was, made) ? -1 : 0;
            for (int i = 0; i < made.size && places != 0; i++) {
                places = narrowed(places, made.at(i), i);
            }
            eachPlaces[each] = places;
            eachSizes[each] = made.size;
        }

        /** How many signs of a text from a place on stand here too, next to one another, up to so many. */
        int sharedFrom(Text text, int place, int most) {
            int places = -1;
            for (int i = 0; i < most; i++) {
                places = narrowed(places, text.at(place + i), i);
                if (places == 0) {
                    return i;
                }
            }
            return most;
        }

        /** Those of the places that have the sign so much behind them. */
        private int narrowed(int places, char sign, int behind) {
            return behind >= 0 && behind < Text.MOST ? places & placesOfSign[sign & 127] >> behind : 0;
        }

        boolean hasCut(int first, int second) {
            return spots[first] >= 0 && spots[first] < spots[second];
        }

        int placesOfCut(int first, int second, int way) {
            return hasCut(first, second) ? cutPlaces[(way * ENDS + spots[first]) * ENDS + spots[second]] : 0;
        }

        int sizeOfCut(int first, int second) {
            return spots[second] - spots[first];
        }

        int placesOfEach(int each) {
            return each >= 0 && each < Atom.EACHES ? eachPlaces[each] : 0;
        }

        int sizeOfEach(int each) {
            return each >= 0 && each < Atom.EACHES ? eachSizes[each] : 0;
        }
    }

    /** The atoms that may be used for a set of examples: those of which each text shown has what they make. */
    private static final class Stock {
        /** A CUT needs a place below another one, so that of two spots there is one at the most. */
        private static final int MOST_ATOMS = Text.SPOTS * (Text.SPOTS - 1) / 2 * Atom.WAYS + Atom.EACHES;
        private static final int MOST = Task.MOST;
        private static final int ENDS = Text.MOST + 1;

        final Board[] boards = new Board[MOST];
        /** The examples of the set; what follows has a column for each. */
        final Board[] members = new Board[MOST];
        int memberCount;
        /** The CUTs and EACHs, in their order. */
        final int[] atoms = new int[MOST_ATOMS];
        final int[] weights = new int[MOST_ATOMS];
        final int[] places = new int[MOST_ATOMS * MOST];
        final int[] sizes = new int[MOST_ATOMS * MOST];
        int atomCount;
        /** How many signs from a place of a text shown on also stand in all others, as far as CONSTs go. */
        final int[] shared = new int[MOST * ENDS];
        /** Atoms that make the same are a group: its first one, and its weights, above the least, as bits. */
        final int[] groups = new int[MOST_ATOMS];
        final int[] groupWeights = new int[MOST_ATOMS];
        int groupCount;
        /** By the size of what is made in the first column: the newest group, and from each group the next. */
        private final int[] newest = new int[ENDS];
        private final int[] older = new int[MOST_ATOMS];

        Stock() {
            for (int i = 0; i < MOST; i++) {
                boards[i] = new Board();
                members[i] = boards[i];
            }
        }

        void gather(int set) {
            memberCount = 0;
            for (int i = 0; i < MOST; i++) {
                if ((set >> i & 1) != 0) {
                    members[memberCount] = boards[i];
                    memberCount++;
                }
            }
            atomCount = 0;
            groupCount = 0;
            for (int i = 0; i < ENDS; i++) {
                newest[i] = NONE;
            }
            for (int first = 0; first < Text.SPOTS; first++) {
                for (int second = 0; second < Text.SPOTS; second++) {
                    gatherCuts(first, second);
                }
            }
            for (int each = 0; each < Atom.EACHES && atomCount < MOST_ATOMS; each++) {
                gatherEach(each, Atom.weightOf(Atom.CUTS + each));
            }
            gatherShared();
        }

        private void gatherCuts(int first, int second) {
            for (int i = 0; i < memberCount; i++) {
                if (!members[i].hasCut(first, second)) {
                    return;
                }
            }
            for (int way = 0; way < Atom.WAYS && atomCount < MOST_ATOMS; way++) {
                boolean isUseful = true;
                for (int i = 0; i < memberCount && isUseful; i++) {
                    int standing = members[i].placesOfCut(first, second, way);
                    places[atomCount * MOST + i] = standing;
                    sizes[atomCount * MOST + i] = members[i].sizeOfCut(first, second);
                    isUseful = standing != 0;
                }
                if (isUseful) {
                    addAtom(Atom.cut(first, second, way), Atom.weightOfCut(first, second, way));
                }
            }
        }

        private void gatherEach(int each, int weight) {
            for (int i = 0; i < memberCount; i++) {
                int standing = members[i].placesOfEach(each);
                if (standing == 0) {
                    return;
                }
                places[atomCount * MOST + i] = standing;
                sizes[atomCount * MOST + i] = members[i].sizeOfEach(each);
            }
            addAtom(Atom.CUTS + each, weight);
        }

        /** What the atom makes stands in its row already. */
        private void addAtom(int atom, int weight) {
            atoms[atomCount] = atom;
            weights[atomCount] = weight;
            int size = Math.min(sizes[atomCount * MOST], Text.MOST);
            int group = newest[size];
            for (int n = 0; n < groupCount && group != NONE && !isLike(groups[group]); n++) {
                group = older[group];
            }
            if (group == NONE) {
                group = groupCount;
                groupCount++;
                groups[group] = atomCount;
                groupWeights[group] = 0;
                older[group] = newest[size];
                newest[size] = group;
            }
            groupWeights[group] |= 1 << weight - Atom.LEAST_WEIGHT;
            atomCount++;
        }

        /** Whether the atom that is being added makes what another one makes: as much, at the same places. */
        private boolean isLike(int other) {
            for (int i = 0; i < memberCount; i++) {
                int mine = atomCount * MOST + i;
                int others = other * MOST + i;
                if (sizes[mine] != sizes[others] || places[mine] != places[others]) {
                    return false;
                }
            }
            return true;
        }

        private void gatherShared() {
            for (int i = 0; i < memberCount; i++) {
                Text text = members[i].shown;
                for (int place = 0; place <= text.size; place++) {
                    int least = Math.min(Atom.MOST_SIGNS, text.size - place);
                    for (int j = 0; j < memberCount; j++) {
                        least = members[j].sharedFrom(text, place, least);
                    }
                    shared[i * ENDS + place] = least;
                }
            }
        }

        int indexOf(int atom) {
            for (int i = 0; i < atomCount; i++) {
                if (atoms[i] == atom) {
                    return i;
                }
            }
            return NONE;
        }
    }

    /**
     * Finds the programs that count for a set of examples. It asks for programs by weight, of these by how many
     * atoms, of these by their atoms in order, so that those it finds come in the order that is due, and the
     * fifth one ends it. A walk along the atoms goes only where it can be ended with just the atoms and the
     * weight that are left.
     */
    private static final class Finder {
        private static final int ENDS = Text.MOST + 1;
        private static final int MOST = Task.MOST;
        private static final int LAYERS = 1 + PLACES * (PLACES + 1) / 2;
        private static final int MOST_SUM = PLACES * Atom.MOST_WEIGHT;
        private static final int MOST_ABOVE = MOST_SUM - PLACES * Atom.LEAST_WEIGHT;
        private static final int KNOWN_BITS = 11;

        final Program[] found = new Program[Task.BEST];
        int foundCount;

        private final Stock stock = new Stock();
        /** Whose examples are on the boards, and how many: they never change, and none goes. */
        private Task lookedAt;
        private int boardCount;
        private final int[] pins = new int[PLACES];
        private final int[] pinIndexes = new int[PLACES];
        private boolean isPinned;
        /** By layer, column and place: the weights, above the least, that end this example alone, as bits. */
        private final long[] ways = new long[LAYERS * MOST * ENDS];
        /** What was found to end all examples; a newer one may take its row, and is then found anew. */
        private final long[] knownKeys = new long[1 << KNOWN_BITS];
        private final long[] knownEndings = new long[1 << KNOWN_BITS];
        private long searches;
        /** By place of the program and column: where the text shown is, ahead of this place. */
        private final int[] at = new int[(PLACES + 1) * MOST];
        private final int[] row = new int[PLACES];

        Finder() {
            for (int i = 0; i < Task.BEST; i++) {
                found[i] = new Program();
            }
        }

        void lookAt(Task task) {
            if (lookedAt != task) {
                lookedAt = task;
                boardCount = 0;
            }
            for (; boardCount < task.examples && boardCount < MOST; boardCount++) {
                stock.boards[boardCount].lookAt(task.was[boardCount], task.shown[boardCount]);
            }
            isPinned = false;
            for (int i = 0; i < PLACES; i++) {
                pins[i] = task.pins[i];
                isPinned |= pins[i] != NONE;
            }
        }

        void find(int set) {
            stock.gather(set);
            for (int i = 0; i < PLACES; i++) {
                pinIndexes[i] = stock.indexOf(pins[i]);
            }
            gatherWays();
            searches++;
            foundCount = 0;
            for (int sum = Atom.LEAST_WEIGHT; sum <= MOST_SUM && foundCount < Task.BEST; sum++) {
                for (int size = 1; size <= PLACES && foundCount < Task.BEST; size++) {
                    walk(size, 0, sum);
                }
            }
        }

        // ---- with what weights each example alone can be ended

        /** Without pins, all programs with as many atoms left are alike; with pins, their places matter. */
        private int layerOf(int size, int place) {
            if (place >= size) {
                return 0;
            }
            return isPinned ? 1 + size * (size - 1) / 2 + place : size - place;
        }

        private void gatherWays() {
            for (int i = 0; i < stock.memberCount; i++) {
                at[i] = 0;
                for (int place = 0; place < ENDS; place++) {
                    ways[i * ENDS + place] = place == stock.members[i].shown.size ? 1L : 0L;
                }
            }
            for (int size = 1; size <= PLACES; size++) {
                for (int place = isPinned ? size - 1 : 0; place >= 0; place--) {
                    gatherLayer(layerOf(size, place), layerOf(size, place + 1), place);
                }
            }
        }

        private void gatherLayer(int layer, int next, int place) {
            for (int i = 0; i < stock.memberCount; i++) {
                int here = (layer * MOST + i) * ENDS;
                int then = (next * MOST + i) * ENDS;
                for (int from = 0; from < ENDS; from++) {
                    ways[here + from] = 0;
                }
                gatherConstWays(i, here, then, pins[place]);
                if (pinIndexes[place] != NONE) {
                    int weights = 1 << stock.weights[pinIndexes[place]] - Atom.LEAST_WEIGHT;
                    gatherAtomWays(pinIndexes[place] * MOST + i, weights, here, then);
                }
                for (int group = 0; group < stock.groupCount && pins[place] == NONE; group++) {
                    gatherAtomWays(stock.groups[group] * MOST + i, stock.groupWeights[group], here, then);
                }
            }
        }

        private void gatherConstWays(int column, int here, int then, int pin) {
            Text text = stock.members[column].shown;
            for (int place = 0; place < text.size; place++) {
                int atom = 0;
                for (int n = 1; n <= stock.shared[column * ENDS + place]; n++) {
                    atom = Atom.withSign(atom, n - 1, text.at(place + n - 1));
                    if (pin == NONE || pin == atom) {
                        ways[here + place] |= ways[then + place + n] << Atom.weightOfConst(n) - Atom.LEAST_WEIGHT;
                    }
                }
            }
        }

        private void gatherAtomWays(int cell, int weights, int here, int then) {
            int left = stock.places[cell];
            int size = stock.sizes[cell];
            for (int n = Integer.bitCount(left); n > 0; n--) {
                int lowest = left & -left;
                int place = Integer.bitCount(lowest - 1);
                left -= lowest;
                ways[here + place] |= heavier(ways[then + place + size], weights);
            }
        }

        private static long heavier(long endings, int weights) {
            long all = 0;
            for (int above = 0; endings != 0 && above <= Atom.MOST_WEIGHT - Atom.LEAST_WEIGHT; above++) {
                if ((weights >> above & 1) != 0) {
                    all |= endings << above;
                }
            }
            return all;
        }

        // ---- with what weights all examples together can be ended

        /** The weights, above the least, by which it ends from where it stands; at least those that are wanted. */
        private long endings(int size, int place, long wanted) {
            int layer = layerOf(size, place);
            long most = -1L;
            for (int i = 0; i < stock.memberCount; i++) {
                most &= ways[(layer * MOST + i) * ENDS + at[place * MOST + i]];
            }
            if ((most & wanted) == 0 || stock.memberCount == 1 || place >= size || place >= PLACES) {
                return most & wanted;
            }
            long key = keyOf(layer, place);
            int slot = (int) (key * 0x9E3779B97F4A7C15L >>> 64 - KNOWN_BITS);
            if (knownKeys[slot] != key) {
                long ending = constEndings(size, place) | atomEndings(size, place, most);
                knownKeys[slot] = key;
                knownEndings[slot] = ending;
            }
            return knownEndings[slot];
        }

        /**
         * A key has all columns, also those that this search has not: with fewer of them for fewer examples, a
         * search would meet what an older one had found for more examples.
         */
        private long keyOf(int layer, int place) {
            long key = searches * LAYERS + layer;
            for (int i = 0; i < MOST; i++) {
                key = key * ENDS + (i < stock.memberCount ? at[place * MOST + i] : 0);
            }
            return key;
        }

        private long constEndings(int size, int place) {
            long all = 0;
            int atom = 0;
            for (int n = 1; n <= Atom.MOST_SIGNS; n++) {
                char sign = stepOverSign(place, n);
                if (sign == 0) {
                    break;
                }
                atom = Atom.withSign(atom, n - 1, sign);
                if (pins[place] == NONE || pins[place] == atom) {
                    all |= endings(size, place + 1, -1L) << Atom.weightOfConst(n) - Atom.LEAST_WEIGHT;
                }
            }
            return all;
        }

        private long atomEndings(int size, int place, long most) {
            long all = 0;
            int pin = pinIndexes[place];
            if (pin != NONE && stepsOver(pin, place)) {
                return endings(size, place + 1, -1L) << stock.weights[pin] - Atom.LEAST_WEIGHT;
            }
            for (int i = 0; i < stock.groupCount && pins[place] == NONE && all != most; i++) {
                if (stepsOver(stock.groups[i], place)) {
                    all |= heavier(endings(size, place + 1, -1L), stock.groupWeights[i]);
                }
            }
            return all;
        }

        // ---- the walk along the atoms

        private void walk(int size, int place, int rest) {
            int above = rest - (size - place) * Atom.LEAST_WEIGHT;
            if (foundCount >= Task.BEST || above < 0 || above > MOST_ABOVE) {
                return;
            }
            if ((endings(size, place, 1L << above) >> above & 1) == 0) {
                return;
            }
            if (place >= size || place >= PLACES) {
                found[foundCount].setRow(row, size);
                foundCount++;
                return;
            }
            walkConsts(size, place, rest);
            for (int i = 0; i < stock.atomCount && foundCount < Task.BEST; i++) {
                if ((pins[place] == NONE || pins[place] == stock.atoms[i]) && stepsOver(i, place)) {
                    row[place] = stock.atoms[i];
                    walk(size, place + 1, rest - stock.weights[i]);
                }
            }
        }

        private void walkConsts(int size, int place, int rest) {
            int atom = 0;
            for (int n = 1; n <= Atom.MOST_SIGNS && foundCount < Task.BEST; n++) {
                char sign = stepOverSign(place, n);
                if (sign == 0) {
                    return;
                }
                atom = Atom.withSign(atom, n - 1, sign);
                if (pins[place] == NONE || pins[place] == atom) {
                    row[place] = atom;
                    walk(size, place + 1, rest - Atom.weightOfConst(n));
                }
            }
        }

        /** The nth sign from where all are, if it is the same in all, and then they are behind it; 0 if not. */
        private char stepOverSign(int place, int n) {
            char sign = stock.members[0].shown.at(at[place * MOST] + n - 1);
            for (int i = 0; i < stock.memberCount; i++) {
                int from = at[place * MOST + i];
                if (stock.members[i].shown.at(from + n - 1) != sign) {
                    return 0;
                }
                at[(place + 1) * MOST + i] = from + n;
            }
            return sign;
        }

        /** Whether what the atom makes stands where all are, and then they are behind it. */
        private boolean stepsOver(int index, int place) {
            for (int i = 0; i < stock.memberCount; i++) {
                int from = at[place * MOST + i];
                if ((stock.places[index * MOST + i] >> from & 1) == 0) {
                    return false;
                }
                at[(place + 1) * MOST + i] = from + stock.sizes[index * MOST + i];
            }
            return true;
        }
    }
}
