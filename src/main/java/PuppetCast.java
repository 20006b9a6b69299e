import java.util.Arrays;

/** A composer of characters out of traits, and the stage on which their acts are played. */
public final class PuppetCast {
    public static final int NONE = -1, BAD = -2, NO = -3, FULL = -4;

    private static final int MOST_TRAITS = 20, MOST_FIGURES = 12, MOST_TAKEN = 5;
    private static final int MOST_LEFT = 8, MOST_RENAMED = 8, MOST_PART_OPS = 8;
    private static final int MOST_MARKS = 200, MOST_OPS = 600, MOST_OPEN = 40, MOST_STEPS = 30;
    private static final int ACTS = 12, RESULTS = 4, REACHES = 3, SORTS = 3, TROUPES = 4, MOODS = 4;

    private static final int TROUPE = 1, INNER = 2;
    private static final int BEFORE = 0, INSTEAD = 1, AFTER = 2;
    private static final int OWN = 100, MISSING = -5, NOTHING = -6;
    private static final int UNLIKE = 1, NARROWER = 2;

    private static final int OP_MARK = 0, OP_PUT = 1, OP_TAKE = 2, OP_SUM = 3, OP_PLUS = 4, OP_ACT = 5, OP_ABOVE = 6;
    private static final int OP_BY = 7, OP_CUE = 8, OP_THROW = 9, OP_TRY = 10, OP_IF = 11, OP_WITHIN = 12, KINDS = 13;

    private static final int WENT_WELL = 0, THROWN = 1, DEEP = 2, OUT_OF_REACH = 3, ABSENT = 4, CLASHED = 5, LONG = 6;

    private final Company company;
    private final Stage stage;
    /** What takes the next op; null where op() has nothing to add to. */
    private Part latest;

    public PuppetCast() {
        company = new Company();
        stage = new Stage(company);
        latest = null;
    }

    // ---- traits, characters

    public int trait(int a, int b, int c) {
        if (!company.canStandUnder(a, b, c)) {
            return BAD;
        }
        if (!company.alignsUnder(a, b, c)) {
            return NO;
        }
        return company.traitCount >= MOST_TRAITS ? FULL : company.addTrait();
    }

    public int character(int troupe) {
        if (!isBelow(troupe, TROUPES)) {
            return BAD;
        }
        return company.figureCount >= MOST_FIGURES ? FULL : company.addFigure(troupe);
    }

    public int takes(int character, int trait) {
        Figure figure = company.figureAt(character);
        if (figure == null || company.traitAt(trait) == null || figure.hasTaken(trait)) {
            return BAD;
        }
        if (!company.alignsTaking(figure, trait)) {
            return NO;
        }
        return figure.takenCount >= MOST_TAKEN ? FULL : company.addTaken(figure, trait);
    }

    public int body(int trait, int act, int reach, int result) {
        Trait giver = company.traitAt(trait);
        if (giver == null || !isAct(act) || !isBelow(reach, REACHES) || !isBelow(result, RESULTS)) {
            return BAD;
        }
        latest = new Part(trait, NONE, reach, result, false);
        giver.setBody(act, latest);
        return 1;
    }

    public int need(int trait, int act, int result) {
        Trait giver = company.traitAt(trait);
        if (giver == null || !isAct(act) || !isBelow(result, RESULTS)) {
            return BAD;
        }
        giver.setBody(act, new Part(trait, NONE, 0, result, true));
        latest = null;
        return 1;
    }

    public int guard(int trait, int act, int sort) {
        Trait giver = company.traitAt(trait);
        if (giver == null || !isAct(act) || !isBelow(sort, SORTS)) {
            return BAD;
        }
        latest = new Part(trait, sort, 0, 0, false);
        giver.setGuard(act, latest);
        return 1;
    }

    public int own(int character, int act, int reach, int result) {
        Figure figure = company.figureAt(character);
        if (figure == null || !isAct(act) || !isBelow(reach, REACHES) || !isBelow(result, RESULTS)) {
            return BAD;
        }
        latest = new Part(NONE, NONE, reach, result, false);
        figure.setOwnBody(act, latest);
        return 1;
    }

    public int op(int kind, int a, int b) {
        if (!isOp(kind, a, b)) {
            return BAD;
        }
        if (latest == null) {
            return NO;
        }
        return latest.size >= MOST_PART_OPS ? FULL : latest.addOp(kind, a, b);
    }

    public int leave(int character, int trait, int act) {
        Figure figure = company.figureAt(character);
        if (figure == null || company.traitAt(trait) == null || !isAct(act)) {
            return BAD;
        }
        if (figure.leaves(trait, act)) {
            return 0;
        }
        return figure.leftCount >= MOST_LEFT ? FULL : figure.addLeft(trait, act);
    }

    public int rename(int character, int trait, int act, int name) {
        Figure figure = company.figureAt(character);
        if (figure == null || company.traitAt(trait) == null || !isAct(act) || !isAct(name) || act == name) {
            return BAD;
        }
        if (figure.nameOf(trait, act) != NONE || figure.originOf(trait, name) != NONE) {
            return NO;
        }
        return figure.renamedCount >= MOST_RENAMED ? FULL : figure.addRenamed(trait, act, name);
    }

    public int prefer(int character, int act, int trait) {
        Figure figure = company.figureAt(character);
        if (figure == null || !isAct(act) || (trait != NONE && company.traitAt(trait) == null)) {
            return BAD;
        }
        return figure.swapPreferred(act, trait);
    }

    // ---- what comes of it

    public int lineOf(int trait, int i) {
        Trait giver = company.traitAt(trait);
        return giver == null || i < 0 ? BAD : giver.line.at(i);
    }

    public int line(int character, int i) {
        Figure figure = company.figureAt(character);
        return figure == null || i < 0 ? BAD : figure.line.at(i);
    }

    public int chosen(int character, int act) {
        Figure figure = company.figureAt(character);
        return figure == null || !isAct(act) ? BAD : company.weigh(figure, act).giver;
    }

    public int clash(int character, int act) {
        Figure figure = company.figureAt(character);
        return figure == null || !isAct(act) ? BAD : company.weigh(figure, act).clash;
    }

    public int about(int character, int act, int what) {
        Figure figure = company.figureAt(character);
        if (figure == null || !isAct(act) || !isBelow(what, 5)) {
            return BAD;
        }
        return what == 4 ? company.guardCount(figure, act) : company.aboutChosen(figure, act, what);
    }

    public int above(int character, int act, int steps) {
        Figure figure = company.figureAt(character);
        if (figure == null || !isAct(act) || !isBelow(steps, MOST_STEPS + 1)) {
            return BAD;
        }
        return company.climb(figure, act, steps);
    }

    public int guards(int character, int act, int i) {
        Figure figure = company.figureAt(character);
        return figure == null || !isAct(act) || i < 0 ? BAD : company.guardingTrait(figure, act, i);
    }

    public int isA(int character, int trait) {
        Figure figure = company.figureAt(character);
        if (figure == null || company.traitAt(trait) == null) {
            return BAD;
        }
        return figure.line.has(trait) ? 1 : 0;
    }

    // ---- plays

    public int play(int character, int act, long value) {
        Figure figure = company.figureAt(character);
        return figure == null || !isAct(act) ? BAD : stage.perform(figure, act, value);
    }

    public long told(int what) {
        return stage.tellingOf(what);
    }

    public int marks() {
        return stage.tape.size;
    }

    public long mark(int i, int what) {
        return stage.tape.cell(i, what);
    }

    public long mood(int character, int k) {
        Figure figure = company.figureAt(character);
        return figure == null ? 0 : figure.moodAt(k);
    }

    public int setMood(int character, int k, long v) {
        Figure figure = company.figureAt(character);
        if (figure == null || !isBelow(k, MOODS)) {
            return BAD;
        }
        figure.putMood(k, v);
        return 1;
    }

    public int count(int what) {
        switch (what) {
            case 0:
                return company.traitCount;
            case 1:
                return company.figureCount;
            case 2:
                return company.countBodies();
            case 3:
                return company.countGuards();
            case 4:
                return company.countClashes();
            case 5:
                return company.countMissing();
            default:
                return BAD;
        }
    }

    public long digest() {
        long h = 5;
        for (int c = 0; c < company.figureCount; c++) {
            h = company.digestFigure(h, company.figureAt(c));
        }
        return h;
    }

    // ---- what numbers are as told

    private static boolean isBelow(int number, int bound) {
        return number >= 0 && number < bound;
    }

    private static boolean isAct(int act) {
        return isBelow(act, ACTS);
    }

    private static boolean isOp(int kind, int a, int b) {
        switch (kind) {
            case OP_PUT:
            case OP_TAKE:
            case OP_SUM:
                return isBelow(a, MOODS);
            case OP_ACT:
            case OP_TRY:
                return isAct(a);
            case OP_BY:
                return isBelow(a, MOST_TRAITS);
            case OP_CUE:
                return isBelow(a, MOST_FIGURES) && isAct(b);
            default:
                return isBelow(kind, KINDS);
        }
    }

    /** A body, a need or a guard: what a giver has for an act. */
    private static final class Part {
        /** The trait, or NONE where a character gives it: as a mark tells the giver. */
        final int giver;
        /** NONE for a body or a need. */
        final int sort;
        final int reach;
        final int result;
        final boolean isNeed;
        private final int[] kinds = new int[MOST_PART_OPS];
        private final int[] firsts = new int[MOST_PART_OPS];
        private final int[] seconds = new int[MOST_PART_OPS];
        int size;

        Part(int giver, int sort, int reach, int result, boolean isNeed) {
            this.giver = giver;
            this.sort = sort;
            this.reach = reach;
            this.result = result;
            this.isNeed = isNeed;
        }

        int addOp(int kind, int a, int b) {
            if (isBelow(size, MOST_PART_OPS)) {
                kinds[size] = kind;
                firsts[size] = a;
                seconds[size] = b;
                size++;
            }
            return size;
        }

        int kindAt(int i) {
            return isBelow(i, MOST_PART_OPS) ? kinds[i] : NONE;
        }

        int firstAt(int i) {
            return isBelow(i, MOST_PART_OPS) ? firsts[i] : NONE;
        }

        int secondAt(int i) {
            return isBelow(i, MOST_PART_OPS) ? seconds[i] : NONE;
        }

        boolean isGuard() {
            return sort != NONE;
        }

        /** Only an instead-guard decides itself whether what is within it is done. */
        boolean opens(int kind) {
            switch (kind) {
                case OP_ACT:
                case OP_ABOVE:
                case OP_BY:
                case OP_CUE:
                case OP_TRY:
                    return true;
                case OP_WITHIN:
                    return sort == INSTEAD;
                default:
                    return false;
            }
        }
    }

    /** A row of traits, each in it once. */
    private static final class Line {
        private final int[] row = new int[MOST_TRAITS];
        private final int[] places = new int[MOST_TRAITS];
        int length;

        Line() {
            Arrays.fill(places, NONE);
        }

        void empty() {
            Arrays.fill(places, NONE);
            length = 0;
        }

        void add(int trait) {
            if (isBelow(trait, MOST_TRAITS) && isBelow(length, MOST_TRAITS)) {
                row[length] = trait;
                places[trait] = length;
                length++;
            }
        }

        void addAll(Line other) {
            for (int i = 0; i < other.length; i++) {
                add(other.at(i));
            }
        }

        int at(int i) {
            return isBelow(i, length) && i < MOST_TRAITS ? row[i] : NONE;
        }

        int placeOf(int trait) {
            return isBelow(trait, MOST_TRAITS) ? places[trait] : NONE;
        }

        boolean has(int trait) {
            return isBelow(trait, MOST_TRAITS) && places[trait] != NONE;
        }
    }

    private static final class Trait {
        /** The trait itself stands first in it. */
        final Line line = new Line();
        private final Part[] bodies = new Part[ACTS];
        private final Part[] guards = new Part[ACTS];

        Part bodyFor(int act) {
            return isBelow(act, ACTS) ? bodies[act] : null;
        }

        void setBody(int act, Part part) {
            if (isBelow(act, ACTS)) {
                bodies[act] = part;
            }
        }

        Part guardFor(int act) {
            return isBelow(act, ACTS) ? guards[act] : null;
        }

        void setGuard(int act, Part part) {
            if (isBelow(act, ACTS)) {
                guards[act] = part;
            }
        }

        int countBodies() {
            int n = 0;
            for (int act = 0; act < ACTS; act++) {
                n += bodyFor(act) == null ? 0 : 1;
            }
            return n;
        }

        int countGuards() {
            int n = 0;
            for (int act = 0; act < ACTS; act++) {
                n += guardFor(act) == null ? 0 : 1;
            }
            return n;
        }
    }

    /** A character; java.lang has a Character already. */
    private static final class Figure {
        final int number;
        final int troupe;
        /** Without the character itself. */
        final Line line = new Line();
        private final int[] taken = new int[MOST_TAKEN];
        int takenCount;
        private final Part[] ownBodies = new Part[ACTS];
        private final boolean[] left = new boolean[MOST_TRAITS * ACTS];
        int leftCount;
        /** Of (trait, act) the act to which it is renamed, and the way back. */
        private final int[] names = new int[MOST_TRAITS * ACTS];
        private final int[] origins = new int[MOST_TRAITS * ACTS];
        int renamedCount;
        private final int[] preferred = new int[ACTS];
        private final long[] moods = new long[MOODS];

        Figure(int number, int troupe) {
            this.number = number;
            this.troupe = troupe;
            Arrays.fill(names, NONE);
            Arrays.fill(origins, NONE);
            Arrays.fill(preferred, NONE);
        }

        /** An index into left, names and origins; NONE: there is none such. */
        private static int slot(int trait, int act) {
            boolean isThere = trait >= 0 && trait < MOST_TRAITS && act >= 0 && act < ACTS;
            return isThere ? trait * ACTS + act : NONE;
        }

        int takenAt(int i) {
            return isBelow(i, takenCount) && i < MOST_TAKEN ? taken[i] : NONE;
        }

        boolean hasTaken(int trait) {
            for (int i = 0; i < takenCount; i++) {
                if (takenAt(i) == trait) {
                    return true;
                }
            }
            return false;
        }

        void addTaken(int trait) {
            if (isBelow(takenCount, MOST_TAKEN)) {
                taken[takenCount] = trait;
                takenCount++;
            }
        }

        Part ownBody(int act) {
            return isBelow(act, ACTS) ? ownBodies[act] : null;
        }

        void setOwnBody(int act, Part part) {
            if (isBelow(act, ACTS)) {
                ownBodies[act] = part;
            }
        }

        boolean leaves(int trait, int act) {
            int slot = slot(trait, act);
            return slot != NONE && left[slot];
        }

        int addLeft(int trait, int act) {
            int slot = slot(trait, act);
            if (slot != NONE) {
                left[slot] = true;
                leftCount++;
            }
            return 1;
        }

        int nameOf(int trait, int act) {
            int slot = slot(trait, act);
            return slot == NONE ? NONE : names[slot];
        }

        int originOf(int trait, int name) {
            int slot = slot(trait, name);
            return slot == NONE ? NONE : origins[slot];
        }

        int addRenamed(int trait, int act, int name) {
            int from = slot(trait, act);
            int to = slot(trait, name);
            if (from != NONE && to != NONE) {
                names[from] = name;
                origins[to] = act;
                renamedCount++;
            }
            return 1;
        }

        /** Of which act a trait's body would be offered for an act; NONE: of none. */
        int sourceOf(int trait, int act) {
            int slot = slot(trait, act);
            if (slot == NONE) {
                return NONE;
            }
            if (origins[slot] != NONE) {
                return origins[slot];
            }
            return left[slot] || names[slot] != NONE ? NONE : act;
        }

        int preferredFor(int act) {
            return isBelow(act, ACTS) ? preferred[act] : NONE;
        }

        int swapPreferred(int act, int trait) {
            int before = preferredFor(act);
            if (isBelow(act, ACTS)) {
                preferred[act] = trait;
            }
            return before;
        }

        long moodAt(int k) {
            return isBelow(k, MOODS) ? moods[k] : 0;
        }

        void putMood(int k, long v) {
            if (isBelow(k, MOODS)) {
                moods[k] = v;
            }
        }
    }

    /** Merges rows of traits into one line; made once, its rows are used again. */
    private static final class Merger {
        /** One for each trait taken, one for a trait too many, and one for the row of these. */
        private static final int ROWS = MOST_TAKEN + 2;
        private final Line[] rows = new Line[ROWS];
        private final int[] firsts = new int[ROWS];
        /** The traits whose lines are merged, in order. */
        private final Line givers = new Line();
        final Line merged = new Line();
        private int count;

        void begin() {
            givers.empty();
            merged.empty();
            count = 0;
        }

        void addGiver(int trait, Line line) {
            givers.add(trait);
            addRow(line);
        }

        private void addRow(Line line) {
            if (isBelow(count, ROWS)) {
                rows[count] = line;
                firsts[count] = 0;
                count++;
            }
        }

        /** Fills the merged line; false: there is no line. */
        boolean merges() {
            addRow(givers);
            for (int step = 0; step < MOST_TRAITS; step++) {
                int next = nextTrait();
                if (next == NONE) {
                    break;
                }
                merged.add(next);
                strike(next);
            }
            return allDone();
        }

        private int nextTrait() {
            for (int r = 0; r < count; r++) {
                int trait = firstOf(r);
                if (trait != NONE && !standsBehind(trait)) {
                    return trait;
                }
            }
            return NONE;
        }

        private int firstOf(int r) {
            Line row = isBelow(r, ROWS) ? rows[r] : null;
            return row == null ? NONE : row.at(firsts[r]);
        }

        private boolean standsBehind(int trait) {
            for (int r = 0; r < count && r < ROWS; r++) {
                Line row = rows[r];
                if (row != null && row.placeOf(trait) > firsts[r]) {
                    return true;
                }
            }
            return false;
        }

        private void strike(int trait) {
            for (int r = 0; r < count && r < ROWS; r++) {
                if (firstOf(r) == trait) {
                    firsts[r]++;
                }
            }
        }

        private boolean allDone() {
            for (int r = 0; r < count; r++) {
                if (firstOf(r) != NONE) {
                    return false;
                }
            }
            return true;
        }
    }

    /** What comes of an act of a character; one is made, and filled anew for each question. */
    private static final class Choice {
        /** A trait, OWN, MISSING or NOTHING. */
        int giver;
        /** Null where nothing is chosen. */
        Part part;
        int clash;
        /** NONE where nothing is chosen. */
        int bridges;
        private Part preferred;
        private Part first;
        private Line lineOfFirst;
        private boolean hasRival;
        private boolean hasNeed;
        /** A bit for each result that is offered. */
        private int results;

        void empty() {
            preferred = null;
            first = null;
            lineOfFirst = null;
            hasRival = false;
            hasNeed = false;
            results = 0;
        }

        /** What the traits of a line offer, in order, each with its own line. */
        void hear(Line line, Part offer, boolean isPreferred) {
            results |= 1 << offer.result;
            if (offer.isNeed) {
                hasNeed = true;
                return;
            }
            if (isPreferred) {
                preferred = offer;
            }
            if (lineOfFirst == null) {
                first = offer;
                lineOfFirst = line;
            } else if (!lineOfFirst.has(offer.giver)) {
                hasRival = true;
            }
        }

        void settle(Part own) {
            part = own != null ? own : preferred != null ? preferred : first;
            if (part == null) {
                giver = hasNeed ? MISSING : NOTHING;
                clash = 0;
                bridges = NONE;
                return;
            }
            giver = own != null ? OWN : part.giver;
            clash = (results >> part.result) > 1 ? NARROWER : 0;
            if (own == null && preferred == null && hasRival) {
                clash = UNLIKE;
            }
            int wider = (1 << part.result) - 1;
            bridges = Integer.bitCount(results & wider);
        }
    }

    /** All traits and characters, and what is chosen of them. */
    private static final class Company {
        private final Trait[] traits = new Trait[MOST_TRAITS];
        int traitCount;
        private final Figure[] figures = new Figure[MOST_FIGURES];
        int figureCount;
        private final Merger merger = new Merger();
        private final Choice choice = new Choice();

        Trait traitAt(int trait) {
            return isBelow(trait, MOST_TRAITS) ? traits[trait] : null;
        }

        Figure figureAt(int character) {
            return isBelow(character, MOST_FIGURES) ? figures[character] : null;
        }

        // -- lines

        boolean canStandUnder(int a, int b, int c) {
            if (!isTraitOrNone(a) || !isTraitOrNone(b) || !isTraitOrNone(c)) {
                return false;
            }
            if ((a == NONE && b != NONE) || (b == NONE && c != NONE)) {
                return false;
            }
            return b == NONE || (a != b && a != c && b != c);
        }

        private boolean isTraitOrNone(int trait) {
            return trait == NONE || traitAt(trait) != null;
        }

        boolean alignsUnder(int a, int b, int c) {
            merger.begin();
            addToMerger(a);
            addToMerger(b);
            addToMerger(c);
            return merger.merges();
        }

        boolean alignsTaking(Figure figure, int trait) {
            merger.begin();
            for (int i = 0; i < figure.takenCount; i++) {
                addToMerger(figure.takenAt(i));
            }
            addToMerger(trait);
            return merger.merges();
        }

        private void addToMerger(int trait) {
            Trait giver = traitAt(trait);
            if (giver != null) {
                merger.addGiver(trait, giver.line);
            }
        }

        /** A trait under those whose lines were merged latest. */
        int addTrait() {
            int number = traitCount;
            if (isBelow(number, MOST_TRAITS)) {
                Trait made = new Trait();
                made.line.add(number);
                made.line.addAll(merger.merged);
                traits[number] = made;
                traitCount++;
            }
            return number;
        }

        int addFigure(int troupe) {
            int number = figureCount;
            if (isBelow(number, MOST_FIGURES)) {
                figures[number] = new Figure(number, troupe);
                figureCount++;
            }
            return number;
        }

        /** The lines with this trait as the last one taken were merged latest. */
        int addTaken(Figure figure, int trait) {
            figure.addTaken(trait);
            figure.line.empty();
            figure.line.addAll(merger.merged);
            return figure.takenCount;
        }

        // -- what is offered and chosen

        /** What a trait in the character's line offers for an act; null: nothing. */
        private Part offered(Figure figure, int trait, int act) {
            Trait giver = traitAt(trait);
            return giver == null ? null : giver.bodyFor(figure.sourceOf(trait, act));
        }

        /** What a trait offers, if it is in the line and offers no need; null: none such. */
        Part bodyBy(Figure figure, int trait, int act) {
            Part part = figure.line.has(trait) ? offered(figure, trait, act) : null;
            return part == null || part.isNeed ? null : part;
        }

        /** Of those behind a giver, as parts tell it, the first body offered; null: none is. */
        Part bodyAbove(Figure figure, int giver, int act) {
            int fromPlace = giver == NONE ? 0 : figure.line.placeOf(giver) + 1;
            for (int place = fromPlace; place < figure.line.length; place++) {
                Part part = offered(figure, figure.line.at(place), act);
                if (part != null && !part.isNeed) {
                    return part;
                }
            }
            return null;
        }

        /** The answer is overwritten by the next call. */
        Choice weigh(Figure figure, int act) {
            int preferred = figure.preferredFor(act);
            choice.empty();
            for (int place = 0; place < figure.line.length; place++) {
                int trait = figure.line.at(place);
                Trait giver = traitAt(trait);
                Part part = offered(figure, trait, act);
                if (giver != null && part != null) {
                    choice.hear(giver.line, part, trait == preferred);
                }
            }
            choice.settle(figure.ownBody(act));
            return choice;
        }

        int aboutChosen(Figure figure, int act, int what) {
            Choice made = weigh(figure, act);
            if (made.part == null) {
                return NONE;
            }
            switch (what) {
                case 0:
                    return made.part.result;
                case 1:
                    return made.part.reach;
                case 2:
                    return made.part.size;
                default:
                    return made.bridges;
            }
        }

        int climb(Figure figure, int act, int steps) {
            Part part = weigh(figure, act).part;
            for (int step = 0; step < steps && part != null; step++) {
                part = bodyAbove(figure, part.giver, act);
            }
            if (part == null) {
                return NONE;
            }
            return part.giver == NONE ? OWN : part.giver;
        }

        // -- guards

        Part guardAt(Figure figure, int place, int act) {
            Trait giver = traitAt(figure.line.at(place));
            return giver == null ? null : giver.guardFor(act);
        }

        int guardCount(Figure figure, int act) {
            int n = 0;
            for (int place = 0; place < figure.line.length; place++) {
                n += guardAt(figure, place, act) == null ? 0 : 1;
            }
            return n;
        }

        int guardingTrait(Figure figure, int act, int i) {
            int n = 0;
            for (int place = 0; place < figure.line.length; place++) {
                if (guardAt(figure, place, act) != null) {
                    if (n == i) {
                        return figure.line.at(place);
                    }
                    n++;
                }
            }
            return NONE;
        }

        /** The place of the outermost instead-guard from a place on; the line's length: none. */
        int insteadPlace(Figure figure, int act, int fromPlace) {
            for (int place = fromPlace; place < figure.line.length; place++) {
                Part guard = guardAt(figure, place, act);
                if (guard != null && guard.sort == INSTEAD) {
                    return place;
                }
            }
            return figure.line.length;
        }

        // -- counts

        int countBodies() {
            int n = 0;
            for (int t = 0; t < traitCount; t++) {
                Trait trait = traitAt(t);
                n += trait == null ? 0 : trait.countBodies();
            }
            return n;
        }

        int countGuards() {
            int n = 0;
            for (int t = 0; t < traitCount; t++) {
                Trait trait = traitAt(t);
                n += trait == null ? 0 : trait.countGuards();
            }
            return n;
        }

        int countClashes() {
            int n = 0;
            for (int i = 0; i < figureCount * ACTS; i++) {
                Figure figure = figureAt(i / ACTS);
                n += figure != null && weigh(figure, i % ACTS).clash != 0 ? 1 : 0;
            }
            return n;
        }

        int countMissing() {
            int n = 0;
            for (int i = 0; i < figureCount * ACTS; i++) {
                Figure figure = figureAt(i / ACTS);
                n += figure != null && weigh(figure, i % ACTS).giver == MISSING ? 1 : 0;
            }
            return n;
        }

        long digestFigure(long start, Figure figure) {
            long h = start;
            if (figure == null) {
                return h;
            }
            for (int place = 0; place < figure.line.length; place++) {
                h = 31 * h + figure.line.at(place);
            }
            for (int act = 0; act < ACTS; act++) {
                Choice made = weigh(figure, act);
                h = 31 * h + made.giver;
                h = 31 * h + made.clash;
                h = 31 * h + made.bridges;
            }
            for (int k = 0; k < MOODS; k++) {
                h = 31 * h + figure.moodAt(k);
            }
            return h;
        }
    }

    /** The marks of a play. */
    private static final class Tape {
        private static final int CELLS = 5;
        private final long[] cells = new long[MOST_MARKS * CELLS];
        int size;

        void add(int who, int giver, int act, int a, long value) {
            int start = size * CELLS;
            if (isBelow(size, MOST_MARKS)) {
                cells[start] = who;
                cells[start + 1] = giver;
                cells[start + 2] = act;
                cells[start + 3] = a;
                cells[start + 4] = value;
                size++;
            }
        }

        long cell(int i, int what) {
            return isBelow(i, size) && isBelow(what, CELLS) ? cells[i * CELLS + what] : 0;
        }
    }

    /**
     * Plays acts. The argument open of its methods is how many calls are open:
     * it bounds their recursion. Where one fails, failure is set, and nothing
     * more is done until a try takes the failure away.
     */
    private static final class Stage {
        private final Company company;
        final Tape tape = new Tape();
        private int failure;
        /** By which number, the latest time that something was thrown. */
        private int thrown;
        private int opsDone;
        private int mostOpen;
        private long outcome;

        Stage(Company company) {
            this.company = company;
        }

        int perform(Figure who, int act, long value) {
            tape.size = 0;
            failure = WENT_WELL;
            opsDone = 0;
            mostOpen = 1;
            long end = callAct(who, who, act, value, 1);
            outcome = failure == WENT_WELL ? end : 0;
            return failure;
        }

        long tellingOf(int what) {
            switch (what) {
                case 0:
                    return outcome;
                case 1:
                    return failure == THROWN ? thrown : 0;
                case 2:
                    return opsDone;
                case 3:
                    return mostOpen;
                default:
                    return 0;
            }
        }

        private long fail(int how) {
            failure = how;
            return 0;
        }

        private long callAct(Figure who, Figure caller, int act, long value, int open) {
            Choice made = company.weigh(who, act);
            Part part = made.part;
            if (made.clash != 0) {
                return fail(CLASHED);
            }
            if (part == null) {
                return fail(ABSENT);
            }
            if (!isInReach(part.reach, who, caller)) {
                return fail(OUT_OF_REACH);
            }
            return goWithin(who, act, 0, value, open);
        }

        /** Its own acts are all in a character's reach, so the caller of all but cues is who. */
        private static boolean isInReach(int reach, Figure who, Figure caller) {
            switch (reach) {
                case INNER:
                    return caller.number == who.number;
                case TROUPE:
                    return caller.troupe == who.troupe;
                default:
                    return true;
            }
        }

        /** The guards from a place in the line on, and what is innermost. */
        private long goWithin(Figure who, int act, int fromPlace, long value, int open) {
            int core = company.insteadPlace(who, act, fromPlace);
            long v = value;
            for (int place = fromPlace; place < core && failure == WENT_WELL; place++) {
                Part guard = company.guardAt(who, place, act);
                if (guard != null && guard.sort == BEFORE) {
                    v = doOps(guard, who, act, place, v, open);
                }
            }
            Part inner = core < who.line.length ? company.guardAt(who, core, act) : company.weigh(who, act).part;
            if (inner != null && failure == WENT_WELL) {
                v = doOps(inner, who, act, core, v, open);
            }
            for (int place = core - 1; place >= fromPlace && failure == WENT_WELL; place--) {
                Part guard = company.guardAt(who, place, act);
                if (guard != null && guard.sort == AFTER) {
                    v = doOps(guard, who, act, place, v, open);
                }
            }
            return v;
        }

        /** The place is that of a guard in the line; bodies do not use it. */
        private long doOps(Part part, Figure who, int act, int place, long value, int open) {
            long v = value;
            boolean passesOver = false;
            for (int i = 0; i < part.size && failure == WENT_WELL; i++) {
                int kind = part.kindAt(i);
                if (passesOver) {
                    passesOver = false;
                } else if (opsDone >= MOST_OPS) {
                    v = fail(LONG);
                } else {
                    opsDone++;
                    passesOver = kind == OP_IF && v < 1;
                    v = part.opens(kind) ? doOpening(part, i, who, act, place, v, open) : doPlain(part, i, who, act, v);
                }
            }
            return v;
        }

        private long doPlain(Part part, int i, Figure who, int act, long value) {
            int a = part.firstAt(i);
            switch (part.kindAt(i)) {
                case OP_MARK:
                    tape.add(who.number, part.giver, act, a, value);
                    return value;
                case OP_PUT:
                    who.putMood(a, value);
                    return value;
                case OP_TAKE:
                    return who.moodAt(a);
                case OP_SUM:
                    return value + who.moodAt(a);
                case OP_PLUS:
                    return value + a;
                case OP_THROW:
                    thrown = a;
                    return fail(THROWN);
                default:
                    return value;
            }
        }

        private long doOpening(Part part, int i, Figure who, int act, int place, long value, int open) {
            if (open >= MOST_OPEN) {
                return fail(DEEP);
            }
            int opened = open + 1;
            mostOpen = Math.max(mostOpen, opened);
            int a = part.firstAt(i);
            switch (part.kindAt(i)) {
                case OP_ACT:
                    return callAct(who, who, a, value, opened);
                case OP_TRY:
                    return takeFailureAway(callAct(who, who, a, value, opened));
                case OP_CUE:
                    Figure cued = company.figureAt(a);
                    return cued == null ? fail(ABSENT) : callAct(cued, who, part.secondAt(i), value, opened);
                case OP_WITHIN:
                    return goWithin(who, act, place + 1, value, opened);
                case OP_BY:
                    Part named = company.bodyBy(who, a, act);
                    return named == null ? fail(ABSENT) : doOps(named, who, act, place, value, opened);
                default:
                    Part higher = partAbove(part, who, act);
                    return higher == null ? fail(ABSENT) : doOps(higher, who, act, place, value, opened);
            }
        }

        /** A guard's giver may offer nothing for the act, so a guard goes on with what is chosen. */
        private Part partAbove(Part part, Figure who, int act) {
            return part.isGuard() ? company.weigh(who, act).part : company.bodyAbove(who, part.giver, act);
        }

        private long takeFailureAway(long value) {
            if (failure == WENT_WELL || failure == DEEP || failure == LONG) {
                return value;
            }
            long caught = failure == THROWN ? thrown : -10 - failure;
            failure = WENT_WELL;
            return caught;
        }
    }
}
