/** A vault of versions: texts, shelves of named texts, steps, their diffs, merges, joins, packing and sweeping. */
public final class VersionVault {
    private static final int NONE = -1;
    private static final int REFUSED = -2;
    private static final int CLASH = -3;
    private static final int MERGED = -4;
    private static final int NO_LINE = -2000000000;

    private static final int MOST_LINES = 24;
    private static final int MOST_TEXTS = 120;
    private static final int MOST_SHELVES = 100;
    private static final int MOST_STEPS = 80;
    private static final int NAMES = 16;
    private static final int HEADS = 8;
    private static final int DEEPEST_STEM = 3;

    private static final int LOOSE = 0;
    private static final int DELTA = 1;
    private static final int LOST = 2;
    private static final int GONE = 3;

    private static final int GOOD = 1;
    private static final int BAD = 2;

    private static final int OPEN = -1;
    private static final int TAKE_ORIGIN = 0;
    private static final int TAKE_OURS = 1;
    private static final int TAKE_THEIRS = 2;
    private static final int TAKE_BOTH = 3;
    private static final int TAKE_NOTHING = 4;

    private final Row drafted;
    private final int[] basket;
    private final Texts texts;
    private final Shelves shelves;
    private final Steps steps;
    private final Diff diffAtHand;
    private final Blend mergeAtHand;
    private final Joiner joiner;
    private final Tracer tracer;
    private final Keeper keeper;
    private final StepSet chosen;

    public VersionVault() {
        int[] table = new int[(MOST_LINES + 1) * (MOST_LINES + 1)];
        drafted = new Row();
        basket = new int[NAMES];
        for (int name = 0; name < NAMES; name++) {
            basket[name] = NONE;
        }
        texts = new Texts(table);
        shelves = new Shelves();
        steps = new Steps();
        diffAtHand = new Diff(table);
        mergeAtHand = new Blend(table);
        joiner = new Joiner(texts, shelves, steps, table);
        tracer = new Tracer(texts, shelves, steps, table);
        keeper = new Keeper(texts, shelves, steps);
        chosen = new StepSet();
    }

    // ---- texts

    public int add(int line) {
        return drafted.push(line) ? drafted.length : REFUSED;
    }

    public int wipe() {
        int had = drafted.length;
        drafted.clear();
        return had;
    }

    public int draft(int i) {
        return drafted.at(i);
    }

    public int text() {
        int t = texts.keep(drafted);
        if (t != REFUSED) {
            drafted.clear();
        }
        return t;
    }

    public int size(int t) {
        return texts.isReadable(t) ? texts.lengths[t] : REFUSED;
    }

    public int line(int t, int i) {
        return texts.isReadable(t) ? texts.at(t, i) : 0;
    }

    public int copy(int t) {
        if (!texts.isReadable(t)) {
            return REFUSED;
        }
        texts.fetch(t, drafted);
        return drafted.length;
    }

    public int state(int t) {
        return texts.isText(t) ? texts.conditions[t] : REFUSED;
    }

    public int missing(int t) {
        return texts.isThere(t) ? texts.firstLost(t) : REFUSED;
    }

    // ---- shelves

    public int lay(int name, int t) {
        if (!isName(name) || !texts.isThere(t)) {
            return REFUSED;
        }
        int had = basket[name];
        basket[name] = t;
        return had;
    }

    public int take(int name) {
        if (!isName(name)) {
            return REFUSED;
        }
        int had = basket[name];
        basket[name] = NONE;
        return had;
    }

    public int load(int shelf) {
        if (!shelves.isThere(shelf)) {
            return REFUSED;
        }
        for (int name = 0; name < NAMES; name++) {
            basket[name] = shelves.at(shelf, name);
        }
        return namesIn(basket);
    }

    public int shelf() {
        if (!texts.areThere(basket)) {
            return REFUSED;
        }
        int number = shelves.keep(basket);
        if (number != REFUSED) {
            for (int name = 0; name < NAMES; name++) {
                basket[name] = NONE;
            }
        }
        return number;
    }

    public int on(int shelf, int name) {
        return shelves.isThere(shelf) && isName(name) ? shelves.at(shelf, name) : REFUSED;
    }

    // ---- steps

    public int step(int shelf, int p, int q) {
        if (!shelves.isThere(shelf) || !steps.isStepOrNone(p) || !steps.isStepOrNone(q)) {
            return REFUSED;
        }
        if (q != NONE && (p == NONE || p == q)) {
            return REFUSED;
        }
        return steps.make(shelf, p, q);
    }

    public int of(int step, int what) {
        if (!steps.isStep(step)) {
            return REFUSED;
        }
        switch (what) {
            case 0:
                return steps.shelfOf[step];
            case 1:
                return steps.firstOf[step];
            case 2:
                return steps.secondOf[step];
            case 3:
                chosen.clear();
                steps.putAncestors(step, chosen);
                return chosen.members();
            default:
                return REFUSED;
        }
    }

    public int reaches(int s, int t) {
        if (!steps.isStep(s) || !steps.isStep(t)) {
            return REFUSED;
        }
        return steps.isAncestor(s, t) ? 1 : 0;
    }

    public int base(int s, int t, int k) {
        if (!steps.isStep(s) || !steps.isStep(t) || k < 0) {
            return REFUSED;
        }
        steps.putBases(s, t, chosen);
        int before = 0;
        for (int c = 0; c < MOST_STEPS; c++) {
            if (chosen.has(c)) {
                if (before == k) {
                    return c;
                }
                before++;
            }
        }
        return NONE;
    }

    public int head(int h, int s) {
        if (h < 0 || h >= HEADS || !steps.isStepOrNone(s)) {
            return REFUSED;
        }
        if (s != NONE && keeper.missesShelf(s)) {
            return REFUSED;
        }
        int stood = steps.heads[h];
        steps.heads[h] = s;
        return stood;
    }

    // ---- diffs, merges

    public int diff(int a, int b) {
        if (!texts.isReadable(a) || !texts.isReadable(b)) {
            return REFUSED;
        }
        texts.compareTexts(a, b, diffAtHand);
        return texts.lengths[a] + texts.lengths[b] - 2 * diffAtHand.pairs;
    }

    public int kept(int k, int side) {
        if (k < 0 || k >= diffAtHand.pairs) {
            return NONE;
        }
        if (side == 0) {
            return diffAtHand.left[k];
        }
        return side == 1 ? diffAtHand.right[k] : NONE;
    }

    public int merge(int o, int a, int b) {
        if (!texts.isReadable(o) || !texts.isReadable(a) || !texts.isReadable(b)) {
            return REFUSED;
        }
        mergeAtHand.blendTexts(texts, o, a, b);
        return mergeAtHand.conflicts;
    }

    public int conflict(int c, int side, int i) {
        if (!mergeAtHand.isConflict(c) || side < 0 || side > 5) {
            return NO_LINE;
        }
        int place = mergeAtHand.conflictPlaces[c];
        if (side >= 3) {
            return mergeAtHand.spanLength(place, side - 3);
        }
        if (i < 0 || i >= mergeAtHand.spanLength(place, side)) {
            return NO_LINE;
        }
        return mergeAtHand.spanLine(place, side, i);
    }

    public int settle(int c, int how) {
        if (!mergeAtHand.isConflict(c) || how < OPEN || how > TAKE_NOTHING) {
            return REFUSED;
        }
        int place = mergeAtHand.conflictPlaces[c];
        int was = mergeAtHand.outcomes[place];
        mergeAtHand.outcomes[place] = how;
        return was;
    }

    public int merged() {
        if (!mergeAtHand.fits()) {
            return REFUSED;
        }
        mergeAtHand.weave(drafted);
        return drafted.length;
    }

    // ---- joining

    public int join(int s, int t) {
        return joiner.start(s, t);
    }

    public int joining(int what) {
        if (!joiner.atHand) {
            return REFUSED;
        }
        switch (what) {
            case 0:
                return joiner.overBase;
            case 1:
                return joiner.clashes();
            case 2:
                return joiner.leastClash();
            default:
                return REFUSED;
        }
    }

    public int becomes(int name) {
        return joiner.atHand && isName(name) ? joiner.outcome[name] : REFUSED;
    }

    public int mend(int name, int t) {
        if (!joiner.atHand || !isName(name) || (t != NONE && !texts.isThere(t))) {
            return REFUSED;
        }
        int was = joiner.outcome[name];
        joiner.outcome[name] = t;
        return was;
    }

    public int joined() {
        return joiner.finish();
    }

    // ---- following lines, finding steps

    public int blame(int s, int name, int i) {
        return steps.isStep(s) && isName(name) ? tracer.bringer(s, name, i) : REFUSED;
    }

    public int renamed(int s, int name) {
        return steps.isStep(s) && isName(name) ? tracer.formerName(s, name) : REFUSED;
    }

    public int mark(int s, int how) {
        if (!steps.isStep(s) || how < 0 || how > BAD) {
            return REFUSED;
        }
        int was = steps.marks[s];
        steps.marks[s] = how;
        return was;
    }

    public int question() {
        steps.putQuestioned(chosen);
        return chosen.members();
    }

    public int ask() {
        steps.putQuestioned(chosen);
        return chosen.members() < 2 ? NONE : steps.bestAsk(chosen);
    }

    public int found() {
        steps.putQuestioned(chosen);
        // The least bad step is IN QUESTION whenever any step is, so it is the only one.
        return chosen.members() == 1 ? steps.leastBad() : NONE;
    }

    // ---- packing, sweeping

    public int pack() {
        texts.packAll();
        return texts.inCondition(DELTA);
    }

    public int stem(int t) {
        return texts.isThere(t) ? texts.stems[t] : REFUSED;
    }

    public int units() {
        return texts.allUnits();
    }

    public int sweep() {
        return keeper.sweepUnreached();
    }

    public int lose(int t) {
        if (!texts.isThere(t)) {
            return REFUSED;
        }
        if (texts.conditions[t] == LOST) {
            return 0;
        }
        texts.conditions[t] = LOST;
        texts.stems[t] = NONE;
        return 1;
    }

    public int count(int what) {
        switch (what) {
            case 0:
                return texts.made;
            case 1:
                return shelves.made;
            case 2:
                return steps.made;
            case 3:
                return texts.made - texts.inCondition(GONE);
            case 4:
                return shelves.there();
            case 5:
                return drafted.length;
            case 6:
                return namesIn(basket);
            case 7:
                return texts.inCondition(LOST);
            case 8:
                return keeper.reachedTexts();
            default:
                return REFUSED;
        }
    }

    private static boolean isName(int name) {
        return name >= 0 && name < NAMES;
    }

    private static int namesIn(int[] names) {
        int n = 0;
        for (int name = 0; name < NAMES && name < names.length; name++) {
            if (names[name] != NONE) {
                n++;
            }
        }
        return n;
    }

    /** A row of at most 24 lines that is filled again and again. */
    private static final class Row {
        private final int[] cells = new int[MOST_LINES];
        private int length = 0;

        private void clear() {
            length = 0;
        }

        private boolean push(int line) {
            if (length >= MOST_LINES) {
                return false;
            }
            cells[length] = line;
            length++;
            return true;
        }

        private int at(int i) {
            return i >= 0 && i < length ? cells[i] : 0;
        }

        private boolean isLike(Row other) {
            if (length != other.length) {
                return false;
            }
            for (int i = 0; i < length; i++) {
                if (cells[i] != other.cells[i]) {
                    return false;
                }
            }
            return true;
        }
    }

    /** THE DIFF of two rows: its PAIRS, by rising lines. */
    private static final class Diff {
        private static final int WIDTH = MOST_LINES + 1;

        /** The most PAIRS of a from line i on and b from line j on, at i * WIDTH + j; shared by all diffs. */
        private final int[] most;
        private final int[] left = new int[MOST_LINES];
        private final int[] right = new int[MOST_LINES];
        private int pairs = 0;

        private Diff(int[] table) {
            most = table;
        }

        private int mostPairs(Row a, Row b) {
            int[] best = most;
            for (int j = 0; j <= b.length; j++) {
                best[a.length * WIDTH + j] = 0;
            }
            for (int i = a.length - 1; i >= 0; i--) {
                int here = i * WIDTH;
                int line = a.cells[i];
                best[here + b.length] = 0;
                for (int j = b.length - 1; j >= 0; j--) {
                    if (line == b.cells[j]) {
                        best[here + j] = best[here + WIDTH + j + 1] + 1;
                    } else {
                        int without = best[here + WIDTH + j];
                        best[here + j] = without > best[here + j + 1] ? without : best[here + j + 1];
                    }
                }
            }
            return best[0];
        }

        private void compare(Row a, Row b) {
            int due = mostPairs(a, b);
            int from = 0;
            pairs = 0;
            for (int i = 0; i < a.length && due > 0; i++) {
                int j = firstMate(a.cells[i], i, b, from, due);
                if (j >= 0 && pairs < MOST_LINES) {
                    left[pairs] = i;
                    right[pairs] = j;
                    pairs++;
                    from = j + 1;
                    due--;
                }
            }
        }

        /** The first line of b that can pair with line i without losing one of the PAIRS that are due. */
        private int firstMate(int line, int i, Row b, int from, int due) {
            for (int j = from; j < b.length; j++) {
                if (line == b.cells[j] && most[(i + 1) * WIDTH + j + 1] == due - 1) {
                    return j;
                }
            }
            return NONE;
        }

        private int rightOf(int i) {
            for (int k = 0; k < pairs; k++) {
                if (left[k] == i) {
                    return right[k];
                }
            }
            return NONE;
        }

        private int leftOf(int j) {
            for (int k = 0; k < pairs; k++) {
                if (right[k] == j) {
                    return left[k];
                }
            }
            return NONE;
        }
    }

    /** THE MERGE of two rows over a third one: its places in order, each with three SPANS. */
    private static final class Blend {
        private static final int MOST_PLACES = MOST_LINES + 1;
        private static final int ENDS = 6;

        private final Row origin = new Row();
        private final Row ours = new Row();
        private final Row theirs = new Row();
        private final Diff toOurs;
        private final Diff toTheirs;
        /** Of each place the start and the end of the SPANS of o, a and b. */
        private final int[] ends = new int[MOST_PLACES * ENDS];
        private final int[] outcomes = new int[MOST_PLACES];
        private final int[] conflictPlaces = new int[MOST_PLACES];
        /** 0 as long as nothing was merged: a merge has one place at least. */
        private int places = 0;
        private int conflicts = 0;

        private Blend(int[] table) {
            toOurs = new Diff(table);
            toTheirs = new Diff(table);
        }

        /** Merges readable texts; o may be none, which counts as a text without lines. */
        private void blendTexts(Texts texts, int o, int a, int b) {
            texts.fetch(o, origin);
            texts.fetch(a, ours);
            texts.fetch(b, theirs);
            toOurs.compare(origin, ours);
            toTheirs.compare(origin, theirs);
            places = 0;
            conflicts = 0;
            int oFrom = 0;
            int aFrom = 0;
            int bFrom = 0;
            for (int i = 0; i < origin.length; i++) {
                int x = toOurs.rightOf(i);
                int y = toTheirs.rightOf(i);
                if (x != NONE && y != NONE) {
                    putPlace(oFrom, i, aFrom, x, bFrom, y);
                    oFrom = i + 1;
                    aFrom = x + 1;
                    bFrom = y + 1;
                }
            }
            putPlace(oFrom, origin.length, aFrom, ours.length, bFrom, theirs.length);
        }

        private void putPlace(int oFrom, int oTo, int aFrom, int aTo, int bFrom, int bTo) {
            if (places >= MOST_PLACES) {
                return;
            }
            int at = places * ENDS;
            ends[at] = oFrom;
            ends[at + 1] = oTo;
            ends[at + 2] = aFrom;
            ends[at + 3] = aTo;
            ends[at + 4] = bFrom;
            ends[at + 5] = bTo;
            if (sameSpan(ours, aFrom, aTo, origin, oFrom, oTo)) {
                outcomes[places] = TAKE_THEIRS;
            } else if (sameSpan(theirs, bFrom, bTo, origin, oFrom, oTo)
                    || sameSpan(ours, aFrom, aTo, theirs, bFrom, bTo)) {
                outcomes[places] = TAKE_OURS;
            } else {
                outcomes[places] = OPEN;
                conflictPlaces[conflicts] = places;
                conflicts++;
            }
            places++;
        }

        private static boolean sameSpan(Row x, int xFrom, int xTo, Row y, int yFrom, int yTo) {
            if (xTo - xFrom != yTo - yFrom) {
                return false;
            }
            for (int i = 0; i < xTo - xFrom; i++) {
                if (x.cells[xFrom + i] != y.cells[yFrom + i]) {
                    return false;
                }
            }
            return true;
        }

        private int spanLength(int place, int side) {
            int at = place * ENDS + side * 2;
            return ends[at + 1] - ends[at];
        }

        private int spanLine(int place, int side, int i) {
            return sideRow(side).at(ends[place * ENDS + side * 2] + i);
        }

        private Row sideRow(int side) {
            if (side == 0) {
                return origin;
            }
            return side == 1 ? ours : theirs;
        }

        private boolean isConflict(int c) {
            return c >= 0 && c < conflicts;
        }

        private boolean fits() {
            // Each place but the last one is followed by its ANCHOR.
            int lines = places - 1;
            for (int place = 0; place < places; place++) {
                if (outcomes[place] == OPEN) {
                    return false;
                }
                lines += outcomeLength(place);
            }
            return places > 0 && lines <= MOST_LINES;
        }

        private int outcomeLength(int place) {
            switch (outcomes[place]) {
                case TAKE_ORIGIN:
                    return spanLength(place, 0);
                case TAKE_OURS:
                    return spanLength(place, 1);
                case TAKE_THEIRS:
                    return spanLength(place, 2);
                case TAKE_BOTH:
                    return spanLength(place, 1) + spanLength(place, 2);
                default:
                    return 0;
            }
        }

        private void weave(Row out) {
            out.clear();
            for (int place = 0; place < places; place++) {
                int how = outcomes[place];
                if (how == TAKE_ORIGIN) {
                    pushSpan(place, 0, out);
                }
                if (how == TAKE_OURS || how == TAKE_BOTH) {
                    pushSpan(place, 1, out);
                }
                if (how == TAKE_THEIRS || how == TAKE_BOTH) {
                    pushSpan(place, 2, out);
                }
                if (place < places - 1) {
                    out.push(origin.at(ends[place * ENDS + 1]));
                }
            }
        }

        private void pushSpan(int place, int side, Row out) {
            Row from = sideRow(side);
            int at = place * ENDS + side * 2;
            for (int i = ends[at]; i < ends[at + 1]; i++) {
                out.push(from.at(i));
            }
        }
    }

    /** All texts, their conditions and STEMS. */
    private static final class Texts {
        private final int[] cells = new int[MOST_TEXTS * MOST_LINES];
        private final int[] lengths = new int[MOST_TEXTS];
        private final int[] conditions = new int[MOST_TEXTS];
        private final int[] stems = new int[MOST_TEXTS];
        /** The UNITS of a DELTA, as reckoned when it was packed: neither it nor its STEM ever changes. */
        private final int[] deltaUnits = new int[MOST_TEXTS];
        /** Of each two texts one more than their most PAIRS, 0 when not yet reckoned; made when first asked for. */
        private byte[] commons = new byte[0];
        private final Row one = new Row();
        private final Row other = new Row();
        private final Diff measure;
        private int made = 0;

        private Texts(int[] table) {
            measure = new Diff(table);
        }

        private boolean isText(int t) {
            return t >= 0 && t < made;
        }

        private boolean isThere(int t) {
            return isText(t) && conditions[t] != GONE;
        }

        private boolean isReadable(int t) {
            return isThere(t) && firstLost(t) == NONE;
        }

        private boolean areThere(int[] names) {
            for (int name = 0; name < names.length; name++) {
                if (names[name] != NONE && !isThere(names[name])) {
                    return false;
                }
            }
            return true;
        }

        private int firstLost(int t) {
            int u = t;
            for (int hops = 0; hops < MOST_TEXTS && isText(u); hops++) {
                if (conditions[u] == LOST) {
                    return u;
                }
                u = stems[u];
            }
            return NONE;
        }

        private int depthOf(int t) {
            int depth = 0;
            int u = t;
            for (int hops = 0; hops < MOST_TEXTS && isText(u) && conditions[u] == DELTA; hops++) {
                depth++;
                u = stems[u];
            }
            return depth;
        }

        private int at(int t, int i) {
            return isText(t) && i >= 0 && i < lengths[t] ? cells[t * MOST_LINES + i] : 0;
        }

        private void fetch(int t, Row into) {
            into.clear();
            if (isText(t)) {
                int from = t * MOST_LINES;
                for (int i = 0; i < lengths[t]; i++) {
                    into.push(cells[from + i]);
                }
            }
        }

        private int find(Row row) {
            for (int t = 0; t < made; t++) {
                if (conditions[t] != GONE && hasLines(t, row)) {
                    return t;
                }
            }
            return NONE;
        }

        private boolean hasLines(int t, Row row) {
            if (lengths[t] != row.length) {
                return false;
            }
            int from = t * MOST_LINES;
            for (int i = 0; i < row.length; i++) {
                if (cells[from + i] != row.cells[i]) {
                    return false;
                }
            }
            return true;
        }

        private int keep(Row row) {
            int t = find(row);
            if (t == NONE) {
                return make(row);
            }
            if (firstLost(t) != NONE) {
                conditions[t] = LOOSE;
                stems[t] = NONE;
            }
            return t;
        }

        private int make(Row row) {
            if (made >= MOST_TEXTS) {
                return REFUSED;
            }
            int t = made;
            made++;
            for (int i = 0; i < row.length; i++) {
                cells[t * MOST_LINES + i] = row.cells[i];
            }
            lengths[t] = row.length;
            conditions[t] = LOOSE;
            stems[t] = NONE;
            return t;
        }

        private void compareTexts(int a, int b, Diff diff) {
            fetch(a, one);
            fetch(b, other);
            diff.compare(one, other);
        }

        private int commonLines(int t, int u) {
            if (!isText(t) || !isText(u)) {
                return 0;
            }
            if (t == u) {
                return lengths[t];
            }
            int more = Math.max(t, u);
            int at = more * (more - 1) / 2 + Math.min(t, u);
            if (commons.length == 0) {
                commons = new byte[MOST_TEXTS * (MOST_TEXTS - 1) / 2];
            }
            if (commons[at] == 0) {
                fetch(t, one);
                fetch(u, other);
                commons[at] = (byte) (measure.mostPairs(one, other) + 1);
            }
            return commons[at] - 1;
        }

        private void packAll() {
            for (int t = 0; t < made; t++) {
                if (isReadable(t)) {
                    packAnew(t);
                }
            }
        }

        private void packAnew(int t) {
            int fewest = 1 + lengths[t];
            int best = NONE;
            for (int u = 0; u < t; u++) {
                // No DELTA has fewer UNITS than this, so most texts need no diff.
                int atLeast = 2 + Math.abs(lengths[u] - lengths[t]);
                if (atLeast < fewest && isReadable(u) && depthOf(u) <= DEEPEST_STEM) {
                    int units = 2 + lengths[u] + lengths[t] - 2 * commonLines(u, t);
                    if (units < fewest) {
                        fewest = units;
                        best = u;
                    }
                }
            }
            conditions[t] = best == NONE ? LOOSE : DELTA;
            stems[t] = best;
            deltaUnits[t] = fewest;
        }

        private int allUnits() {
            int sum = 0;
            for (int t = 0; t < made; t++) {
                if (conditions[t] == LOOSE) {
                    sum += 1 + lengths[t];
                } else if (conditions[t] == DELTA) {
                    sum += firstLost(t) == NONE ? deltaUnits[t] : 2;
                }
            }
            return sum;
        }

        private int inCondition(int condition) {
            int n = 0;
            for (int t = 0; t < made; t++) {
                if (conditions[t] == condition) {
                    n++;
                }
            }
            return n;
        }
    }

    /** All SHELVES. */
    private static final class Shelves {
        private final int[] cells = new int[MOST_SHELVES * NAMES];
        private final boolean[] swept = new boolean[MOST_SHELVES];
        private int made = 0;

        private boolean isThere(int shelf) {
            return shelf >= 0 && shelf < made && !swept[shelf];
        }

        private int at(int shelf, int name) {
            return shelf >= 0 && shelf < made && isName(name) ? cells[shelf * NAMES + name] : NONE;
        }

        private int find(int[] names) {
            for (int shelf = 0; shelf < made; shelf++) {
                if (!swept[shelf] && isLike(shelf, names)) {
                    return shelf;
                }
            }
            return NONE;
        }

        private boolean isLike(int shelf, int[] names) {
            for (int name = 0; name < NAMES && name < names.length; name++) {
                if (at(shelf, name) != names[name]) {
                    return false;
                }
            }
            return true;
        }

        private int keep(int[] names) {
            int shelf = find(names);
            if (shelf != NONE) {
                return shelf;
            }
            if (made >= MOST_SHELVES) {
                return REFUSED;
            }
            shelf = made;
            made++;
            for (int name = 0; name < NAMES && name < names.length; name++) {
                cells[shelf * NAMES + name] = names[name];
            }
            return shelf;
        }

        private int there() {
            int n = 0;
            for (int shelf = 0; shelf < made; shelf++) {
                if (!swept[shelf]) {
                    n++;
                }
            }
            return n;
        }
    }

    /** A set of steps, a bit each. */
    private static final class StepSet {
        private static final int WORD = 64;

        private long low = 0;
        private long high = 0;

        private void clear() {
            low = 0;
            high = 0;
        }

        private boolean has(int s) {
            if (s < 0 || s >= MOST_STEPS) {
                return false;
            }
            return ((s < WORD ? low >>> s : high >>> (s - WORD)) & 1L) != 0;
        }

        private int members() {
            return Long.bitCount(low) + Long.bitCount(high);
        }

        private void remove(StepSet others) {
            low &= ~others.low;
            high &= ~others.high;
        }
    }

    /** All steps with their ANCESTORS, marks and the HEADS. */
    private static final class Steps {
        private final int[] shelfOf = new int[MOST_STEPS];
        private final int[] firstOf = new int[MOST_STEPS];
        private final int[] secondOf = new int[MOST_STEPS];
        private final int[] marks = new int[MOST_STEPS];
        /** The ANCESTORS of each step, as the bits of a StepSet: they never change. */
        private final long[] lowOf = new long[MOST_STEPS];
        private final long[] highOf = new long[MOST_STEPS];
        private final int[] heads = new int[HEADS];
        private final StepSet left = new StepSet();
        private int made = 0;

        private Steps() {
            for (int h = 0; h < HEADS; h++) {
                heads[h] = NONE;
            }
        }

        private boolean isStep(int s) {
            return s >= 0 && s < made;
        }

        private boolean isStepOrNone(int s) {
            return s == NONE || isStep(s);
        }

        private int make(int shelf, int p, int q) {
            if (made >= MOST_STEPS) {
                return REFUSED;
            }
            left.clear();
            putAncestors(p, left);
            putAncestors(q, left);
            int s = made;
            made++;
            shelfOf[s] = shelf;
            firstOf[s] = p;
            secondOf[s] = q;
            lowOf[s] = left.low | (s < StepSet.WORD ? 1L << s : 0L);
            highOf[s] = left.high | (s < StepSet.WORD ? 0L : 1L << (s - StepSet.WORD));
            return s;
        }

        private void putAncestors(int s, StepSet into) {
            if (isStep(s)) {
                into.low |= lowOf[s];
                into.high |= highOf[s];
            }
        }

        private boolean isAncestor(int s, int t) {
            left.clear();
            putAncestors(s, left);
            return left.has(t);
        }

        private void putBases(int s, int t, StepSet into) {
            into.clear();
            if (!isStep(s) || !isStep(t)) {
                return;
            }
            into.low = lowOf[s] & lowOf[t];
            into.high = highOf[s] & highOf[t];
            left.clear();
            for (int c = 0; c < made; c++) {
                if (into.has(c)) {
                    putAncestors(firstOf[c], left);
                    putAncestors(secondOf[c], left);
                }
            }
            into.remove(left);
        }

        private int leastBad() {
            for (int s = 0; s < made; s++) {
                if (marks[s] == BAD) {
                    return s;
                }
            }
            return NONE;
        }

        private void putQuestioned(StepSet into) {
            into.clear();
            putAncestors(leastBad(), into);
            left.clear();
            for (int s = 0; s < made; s++) {
                if (marks[s] == GOOD) {
                    putAncestors(s, left);
                }
            }
            into.remove(left);
        }

        private int bestAsk(StepSet questioned) {
            int all = questioned.members();
            int bad = leastBad();
            int best = NONE;
            int least = all + 1;
            for (int s = 0; s < made; s++) {
                if (s != bad && questioned.has(s)) {
                    int behind = Long.bitCount(questioned.low & lowOf[s]) + Long.bitCount(questioned.high & highOf[s]);
                    int greater = Math.max(behind, all - behind);
                    if (greater < least) {
                        least = greater;
                        best = s;
                    }
                }
            }
            return best;
        }
    }

    /** JOINING: what is planned over a base, and what is at hand. */
    private static final class Joiner {
        private final Texts texts;
        private final Shelves shelves;
        private final Steps steps;
        private final Blend blend;
        private final StepSet bases = new StepSet();
        private final int[] plan = new int[NAMES];
        private final Row[] planned = new Row[NAMES];
        private final int[] outcome = new int[NAMES];
        private boolean atHand = false;
        private int overBase = NONE;
        private int one = NONE;
        private int other = NONE;

        private Joiner(Texts texts, Shelves shelves, Steps steps, int[] table) {
            this.texts = texts;
            this.shelves = shelves;
            this.steps = steps;
            blend = new Blend(table);
            for (int name = 0; name < NAMES; name++) {
                planned[name] = new Row();
            }
        }

        private int start(int s, int t) {
            if (!steps.isStep(s) || !steps.isStep(t) || steps.isAncestor(s, t) || steps.isAncestor(t, s)) {
                return REFUSED;
            }
            steps.putBases(s, t, bases);
            if (shelfIsGone(s, t)) {
                return REFUSED;
            }
            int base = bestBase(s, t);
            int clashes = base == REFUSED ? REFUSED : planOver(base, s, t);
            if (clashes == REFUSED || texts.made + newTexts() > MOST_TEXTS) {
                return REFUSED;
            }
            carryOut(base, s, t);
            return clashes;
        }

        /** The base that is taken, NONE if there is none; REFUSED when a text can not be READ. */
        private int bestBase(int s, int t) {
            int best = NONE;
            int fewest = NAMES + 1;
            for (int c = 0; c < MOST_STEPS; c++) {
                if (bases.has(c)) {
                    int clashes = planOver(c, s, t);
                    if (clashes == REFUSED) {
                        return REFUSED;
                    }
                    if (clashes < fewest) {
                        fewest = clashes;
                        best = c;
                    }
                }
            }
            return best;
        }

        private boolean shelfIsGone(int s, int t) {
            if (!shelves.isThere(steps.shelfOf[s]) || !shelves.isThere(steps.shelfOf[t])) {
                return true;
            }
            for (int c = 0; c < MOST_STEPS; c++) {
                if (bases.has(c) && !shelves.isThere(steps.shelfOf[c])) {
                    return true;
                }
            }
            return false;
        }

        /** Plans each NAME over a base: how many CLASHES; REFUSED when a text can not be READ. */
        private int planOver(int base, int s, int t) {
            int clashes = 0;
            for (int name = 0; name < NAMES; name++) {
                int o = base == NONE ? NONE : shelves.at(steps.shelfOf[base], name);
                int a = shelves.at(steps.shelfOf[s], name);
                int b = shelves.at(steps.shelfOf[t], name);
                plan[name] = planName(name, o, a, b);
                if (plan[name] == REFUSED) {
                    return REFUSED;
                }
                if (plan[name] == CLASH) {
                    clashes++;
                }
            }
            return clashes;
        }

        private int planName(int name, int o, int a, int b) {
            if (a == b || b == o) {
                return a;
            }
            if (a == o) {
                return b;
            }
            if (a == NONE || b == NONE) {
                return CLASH;
            }
            if (!texts.isReadable(a) || !texts.isReadable(b) || (o != NONE && !texts.isReadable(o))) {
                return REFUSED;
            }
            blend.blendTexts(texts, o, a, b);
            if (!blend.fits()) {
                return CLASH;
            }
            blend.weave(planned[name]);
            return MERGED;
        }

        private int newTexts() {
            int n = 0;
            for (int name = 0; name < NAMES; name++) {
                if (plan[name] == MERGED && texts.find(planned[name]) == NONE && !isPlannedBefore(name)) {
                    n++;
                }
            }
            return n;
        }

        private boolean isPlannedBefore(int name) {
            for (int before = 0; before < name; before++) {
                if (plan[before] == MERGED && planned[before].isLike(planned[name])) {
                    return true;
                }
            }
            return false;
        }

        private void carryOut(int base, int s, int t) {
            for (int name = 0; name < NAMES; name++) {
                outcome[name] = plan[name] == MERGED ? texts.keep(planned[name]) : plan[name];
            }
            overBase = base;
            one = s;
            other = t;
            atHand = true;
        }

        private int clashes() {
            int n = 0;
            for (int name = 0; name < NAMES; name++) {
                if (outcome[name] == CLASH) {
                    n++;
                }
            }
            return n;
        }

        private int leastClash() {
            for (int name = 0; name < NAMES; name++) {
                if (outcome[name] == CLASH) {
                    return name;
                }
            }
            return NONE;
        }

        private int finish() {
            // A CLASH is no text, so areThere refuses it, too.
            if (!atHand || !texts.areThere(outcome) || steps.made >= MOST_STEPS) {
                return REFUSED;
            }
            int shelf = shelves.keep(outcome);
            if (shelf == REFUSED) {
                return REFUSED;
            }
            atHand = false;
            return steps.make(shelf, one, other);
        }
    }

    /** Follows lines and NAMES back to the first PARENTS. */
    private static final class Tracer {
        private final Texts texts;
        private final Shelves shelves;
        private final Steps steps;
        private final Diff diff;
        private final boolean[] isOld = new boolean[NAMES];
        private final boolean[] isNew = new boolean[NAMES];

        private Tracer(Texts texts, Shelves shelves, Steps steps, int[] table) {
            this.texts = texts;
            this.shelves = shelves;
            this.steps = steps;
            diff = new Diff(table);
        }

        private int bringer(int s, int name, int i) {
            if (!shelves.isThere(steps.shelfOf[s])) {
                return REFUSED;
            }
            int t = shelves.at(steps.shelfOf[s], name);
            if (t == NONE) {
                return NONE;
            }
            if (!texts.isReadable(t)) {
                return REFUSED;
            }
            return i >= 0 && i < texts.lengths[t] ? followBack(s, name, t, i) : NONE;
        }

        private int followBack(int s, int name, int t, int i) {
            int here = s;
            int textHere = t;
            int lineHere = i;
            for (int hops = 0; hops < MOST_STEPS; hops++) {
                int parent = steps.firstOf[here];
                if (!steps.isStep(parent)) {
                    return here;
                }
                if (!shelves.isThere(steps.shelfOf[parent])) {
                    return REFUSED;
                }
                int before = shelves.at(steps.shelfOf[parent], name);
                if (before == NONE) {
                    return here;
                }
                if (!texts.isReadable(before)) {
                    return REFUSED;
                }
                if (before != textHere) {
                    texts.compareTexts(before, textHere, diff);
                    lineHere = diff.leftOf(lineHere);
                    if (lineHere == NONE) {
                        return here;
                    }
                }
                here = parent;
                textHere = before;
            }
            return here;
        }

        private int formerName(int s, int name) {
            int parent = steps.firstOf[s];
            if (!steps.isStep(parent)) {
                return REFUSED;
            }
            int shelf = steps.shelfOf[s];
            int before = steps.shelfOf[parent];
            if (!shelves.isThere(shelf) || !shelves.isThere(before) || !sortNames(before, shelf)) {
                return REFUSED;
            }
            for (int round = 0; round < NAMES; round++) {
                int pair = bestPair(before, shelf);
                if (pair == NONE) {
                    return NONE;
                }
                if (pair % NAMES == name) {
                    return pair / NAMES;
                }
                isOld[pair / NAMES] = false;
                isNew[pair % NAMES] = false;
            }
            return NONE;
        }

        /** Tells OLD and NEW names apart: false when a text of theirs can not be READ. */
        private boolean sortNames(int before, int shelf) {
            boolean readable = true;
            for (int name = 0; name < NAMES; name++) {
                int was = shelves.at(before, name);
                int is = shelves.at(shelf, name);
                isOld[name] = was != NONE && is == NONE;
                isNew[name] = was == NONE && is != NONE;
                if ((isOld[name] && !texts.isReadable(was)) || (isNew[name] && !texts.isReadable(is))) {
                    readable = false;
                }
            }
            return readable;
        }

        /** The pair that is told next, as OLD * NAMES + NEW, or NONE. */
        private int bestPair(int before, int shelf) {
            int best = NONE;
            int most = 0;
            for (int old = 0; old < NAMES; old++) {
                for (int now = 0; now < NAMES && isOld[old]; now++) {
                    if (isNew[now]) {
                        int t = shelves.at(before, old);
                        int u = shelves.at(shelf, now);
                        int common = texts.commonLines(t, u);
                        if (common > most && 2 * common >= Math.max(texts.lengths[t], texts.lengths[u])) {
                            most = common;
                            best = old * NAMES + now;
                        }
                    }
                }
            }
            return best;
        }
    }

    /** Tells what is REACHED, and sweeps the rest. */
    private static final class Keeper {
        private final Texts texts;
        private final Shelves shelves;
        private final Steps steps;
        private final StepSet reachedSteps = new StepSet();
        private final boolean[] shelfReached = new boolean[MOST_SHELVES];
        private final boolean[] textReached = new boolean[MOST_TEXTS];

        private Keeper(Texts texts, Shelves shelves, Steps steps) {
            this.texts = texts;
            this.shelves = shelves;
            this.steps = steps;
        }

        private boolean missesShelf(int s) {
            reachedSteps.clear();
            steps.putAncestors(s, reachedSteps);
            for (int c = 0; c < steps.made; c++) {
                if (reachedSteps.has(c) && !shelves.isThere(steps.shelfOf[c])) {
                    return true;
                }
            }
            return false;
        }

        private void survey() {
            reachedSteps.clear();
            for (int h = 0; h < HEADS; h++) {
                steps.putAncestors(steps.heads[h], reachedSteps);
            }
            for (int shelf = 0; shelf < shelves.made; shelf++) {
                shelfReached[shelf] = false;
            }
            for (int t = 0; t < texts.made; t++) {
                textReached[t] = false;
            }
            for (int s = 0; s < steps.made; s++) {
                if (reachedSteps.has(s)) {
                    reachShelf(steps.shelfOf[s]);
                }
            }
            // A STEM has a lesser number than its DELTA, so one way down finds them all.
            for (int t = texts.made - 1; t >= 0; t--) {
                if (textReached[t] && texts.isText(texts.stems[t])) {
                    textReached[texts.stems[t]] = true;
                }
            }
        }

        private void reachShelf(int shelf) {
            if (!shelves.isThere(shelf) || shelfReached[shelf]) {
                return;
            }
            shelfReached[shelf] = true;
            for (int name = 0; name < NAMES; name++) {
                int t = shelves.at(shelf, name);
                if (texts.isText(t)) {
                    textReached[t] = true;
                }
            }
        }

        private int reachedTexts() {
            survey();
            int n = 0;
            for (int t = 0; t < texts.made; t++) {
                if (textReached[t]) {
                    n++;
                }
            }
            return n;
        }

        private int sweepUnreached() {
            survey();
            for (int shelf = 0; shelf < shelves.made; shelf++) {
                if (!shelfReached[shelf]) {
                    shelves.swept[shelf] = true;
                }
            }
            int went = 0;
            for (int t = 0; t < texts.made; t++) {
                if (!textReached[t] && texts.isThere(t)) {
                    texts.conditions[t] = GONE;
                    texts.stems[t] = NONE;
                    went++;
                }
            }
            return went;
        }
    }
}
