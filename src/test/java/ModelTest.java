import java.util.ArrayList;
import java.util.Arrays;
import java.util.HashMap;
import java.util.List;
import java.util.Map;
import java.util.Random;
import java.util.TreeMap;
import java.util.TreeSet;

/** Long runs of chance calls (from fixed seeds), each answer held against a slow model that follows the document's words. */
public final class ModelTest {
    private static final int RUNS = 1200;
    private static final int CALLS = 512;
    private static int wrong = 0;

    public static void main(String[] args) {
        Map<String, Integer> met = new TreeMap<>();
        for (int seed = 0; seed < RUNS && wrong < 5; seed++) {
            run(seed, met);
        }
        for (String call : Driver.CALLS) {
            for (String kind : new String[] {" refused", " answered"}) {
                boolean never = kind.equals(" refused") && Driver.NEVER_REFUSED.contains(" " + call + " ");
                if (wrong == 0 && !never && met.getOrDefault(call + kind, 0) < 20) {
                    wrong++;
                    System.out.println("the chance runs hardly met: " + call + kind);
                }
            }
        }
        System.out.println(wrong == 0 ? "the model and the class agree" : "the model and the class do not agree");
        if (wrong != 0) {
            System.exit(1);
        }
    }

    private static void run(int seed, Map<String, Integer> met) {
        VersionVault vault = new VersionVault();
        Model model = new Model();
        Driver driver = new Driver(seed, model);
        List<String> told = new ArrayList<>();
        // Nothing is promised of later calls, but they must not throw; the model still tells what is sensible there.
        int calls = seed % 12 == 0 ? 5 * CALLS : CALLS;
        for (int n = 0; n < calls; n++) {
            driver.choose();
            int want = driver.onModel();
            int got = driver.onVault(vault);
            told.add(driver.words() + " = " + got);
            met.merge(driver.call + (want == -2 ? " refused" : " answered"), 1, Integer::sum);
            if (got != want) {
                wrong++;
                System.out.println("seed " + seed + ", call " + n + ": " + driver.words() + " answered " + got + ", due is " + want);
                for (String row : told.subList(Math.max(0, told.size() - 40), told.size())) {
                    System.out.println("    " + row);
                }
                return;
            }
        }
    }

    /** Chooses calls and arguments: mostly sensible ones, some wrong ones. */
    private static final class Driver {
        static final String[] CALLS = {
            "add", "wipe", "draft", "text", "size", "line", "copy", "state", "missing", "lay", "take", "load", "shelf",
            "on", "step", "of", "reaches", "base", "head", "diff", "kept", "merge", "conflict", "settle", "merged",
            "join", "joining", "becomes", "mend", "joined", "blame", "renamed", "mark", "question", "ask", "found",
            "pack", "stem", "units", "sweep", "lose", "count"};
        /** Calls that have no refusal, or too seldom one for chance to meet it. */
        static final String NEVER_REFUSED =
            " wipe draft line kept conflict question ask found pack units sweep ";
        final Random chance;
        final Model model;
        final int[] weights = new int[CALLS.length];
        final int lineKinds;
        final int names;
        String call = "";
        int x;
        int y;
        int z;
        List<String> queue = new ArrayList<>();

        Driver(int seed, Model model) {
            chance = new Random(seed * 7919L + 13);
            this.model = model;
            lineKinds = seed % 7 == 6 ? 1000 : 1 + chance.nextInt(6);
            names = 1 + chance.nextInt(16);
            for (int i = 0; i < CALLS.length; i++) {
                weights[i] = 2 + chance.nextInt(3);
                switch (CALLS[i]) {
                    case "add": weights[i] = 20 + chance.nextInt(60); break;
                    case "text": weights[i] = 10 + chance.nextInt(30); break;
                    case "copy": weights[i] = 4 + chance.nextInt(20); break;
                    case "lay": weights[i] = 10 + chance.nextInt(40); break;
                    case "load": weights[i] = 4 + chance.nextInt(10); break;
                    case "shelf": weights[i] = 5 + chance.nextInt(20); break;
                    case "step": weights[i] = 5 + chance.nextInt(20); break;
                    case "head": weights[i] = 4 + chance.nextInt(6); break;
                    case "sweep": weights[i] = seed % 3 == 0 ? 2 : seed % 3 == 1 ? 1 : 0; break;
                    case "lose": weights[i] = seed % 2 == 0 ? 3 : 1; break;
                    case "wipe": weights[i] = seed % 5 == 0 ? 0 : 3; break;
                    case "join": weights[i] = 6 + chance.nextInt(15); break;
                    default: break;
                }
                // Some runs go up to the greatest numbers of texts, lines, steps or shelves.
                if (seed % 7 == 6 && " add ".contains(" " + CALLS[i] + " ")) {
                    weights[i] = 900;
                }
                if (seed % 7 == 3 && " add ".contains(" " + CALLS[i] + " ")) {
                    weights[i] = 400;
                }
                if (seed % 7 == 5 && " step ".contains(" " + CALLS[i] + " ")) {
                    weights[i] *= 8;
                }
                if (seed % 7 == 4 && " lay shelf ".contains(" " + CALLS[i] + " ")) {
                    weights[i] *= 8;
                }
            }
        }

        void choose() {
            if (!queue.isEmpty()) {
                call = queue.remove(0);
            } else {
                int sum = 0;
                for (int w : weights) {
                    sum += w;
                }
                int at = chance.nextInt(sum);
                int i = 0;
                while (at >= weights[i]) {
                    at -= weights[i];
                    i++;
                }
                call = CALLS[i];
                if (call.equals("copy") && chance.nextInt(2) == 0) {
                    queue.add("add");
                    queue.add("text");
                }
                if (call.equals("add") && lineKinds == 1000) {
                    queue.add("text");
                }
                if (call.equals("merge")) {
                    queue.addAll(List.of("conflict", "conflict", "settle", "settle", "conflict", "merged"));
                }
                if (call.equals("diff")) {
                    queue.addAll(List.of("kept", "kept", "kept"));
                }
                if (call.equals("join")) {
                    queue.addAll(List.of("joining", "becomes", "becomes", "mend", "mend", "joining", "joined"));
                }
                if (call.equals("mark")) {
                    queue.addAll(List.of("question", "ask", "mark", "ask", "question", "found"));
                }
                if (call.equals("pack")) {
                    queue.addAll(List.of("units", "stem", "state", "lose", "units", "missing", "size", "pack"));
                }
                if (call.equals("load") && chance.nextInt(3) > 0) {
                    queue.addAll(List.of("lay", "lay", "shelf", "step"));
                }
            }
            arguments();
        }

        void arguments() {
            switch (call) {
                case "add": x = chance.nextInt(40) == 0 ? chance.nextInt() : chance.nextInt(lineKinds); break;
                case "draft": x = near(model.draft.size()); break;
                case "size": case "copy": case "state": case "missing": case "stem": case "lose":
                    x = near(model.texts.size()); break;
                case "line": x = near(model.texts.size()); y = near(6); break;
                case "lay": x = name(); y = near(model.texts.size()); break;
                case "take": case "becomes": x = name(); break;
                case "load": x = near(model.shelves.size()); break;
                case "on": x = near(model.shelves.size()); y = name(); break;
                case "step":
                    x = near(model.shelves.size());
                    y = near(model.steps.size());
                    z = chance.nextInt(3) > 0 ? -1 : near(model.steps.size());
                    if (chance.nextInt(4) == 0) {
                        y = model.steps.size() - 1;
                    }
                    break;
                case "of": x = near(model.steps.size()); y = near(4); break;
                case "reaches": case "join": x = near(model.steps.size()); y = near(model.steps.size()); break;
                case "base": x = near(model.steps.size()); y = near(model.steps.size()); z = near(2); break;
                case "head": x = near(8); y = near(model.steps.size()); break;
                case "diff": x = near(model.texts.size()); y = near(model.texts.size()); break;
                case "kept": x = near(5); y = near(2); break;
                case "merge":
                    x = near(model.texts.size()); y = near(model.texts.size()); z = near(model.texts.size()); break;
                case "conflict": x = near(2); y = near(6); z = near(3); break;
                case "settle": x = near(2); y = near(5); break;
                case "joining": x = near(3); break;
                case "mend": x = name(); y = chance.nextInt(3) == 0 ? -1 : near(model.texts.size()); break;
                case "blame": x = near(model.steps.size()); y = name(); z = near(6); break;
                case "renamed": x = near(model.steps.size()); y = name(); break;
                case "mark": x = near(model.steps.size()); y = near(3); break;
                case "count": x = near(9); break;
                default: break;
            }
        }

        int name() {
            int[] edges = {-1, 15, 16, Integer.MIN_VALUE, Integer.MAX_VALUE};
            return chance.nextInt(30) == 0 ? edges[chance.nextInt(edges.length)] : chance.nextInt(names);
        }

        /** Mostly 0 to n - 1, now and then beside it or far from it. */
        int near(int n) {
            int kind = chance.nextInt(60);
            if (kind == 0) {
                return chance.nextInt(2) == 0 ? Integer.MIN_VALUE : Integer.MAX_VALUE;
            }
            if (kind == 1) {
                return -1 - chance.nextInt(3);
            }
            if (kind == 2 || n <= 0) {
                return n + chance.nextInt(2);
            }
            return chance.nextInt(n);
        }

        String words() {
            return call + "(" + x + ", " + y + ", " + z + ")";
        }

        int onModel() {
            Model v = model;
            switch (call) {
                case "add": return v.add(x);
                case "wipe": return v.wipe();
                case "draft": return v.draft(x);
                case "text": return v.text();
                case "size": return v.size(x);
                case "line": return v.line(x, y);
                case "copy": return v.copy(x);
                case "state": return v.state(x);
                case "missing": return v.missing(x);
                case "lay": return v.lay(x, y);
                case "take": return v.take(x);
                case "load": return v.load(x);
                case "shelf": return v.shelf();
                case "on": return v.on(x, y);
                case "step": return v.step(x, y, z);
                case "of": return v.of(x, y);
                case "reaches": return v.reaches(x, y);
                case "base": return v.base(x, y, z);
                case "head": return v.head(x, y);
                case "diff": return v.diff(x, y);
                case "kept": return v.kept(x, y);
                case "merge": return v.merge(x, y, z);
                case "conflict": return v.conflict(x, y, z);
                case "settle": return v.settle(x, y);
                case "merged": return v.merged();
                case "join": return v.join(x, y);
                case "joining": return v.joining(x);
                case "becomes": return v.becomes(x);
                case "mend": return v.mend(x, y);
                case "joined": return v.joined();
                case "blame": return v.blame(x, y, z);
                case "renamed": return v.renamed(x, y);
                case "mark": return v.mark(x, y);
                case "question": return v.question();
                case "ask": return v.ask();
                case "found": return v.found();
                case "pack": return v.pack();
                case "stem": return v.stem(x);
                case "units": return v.units();
                case "sweep": return v.sweep();
                case "lose": return v.lose(x);
                default: return v.count(x);
            }
        }

        int onVault(VersionVault v) {
            switch (call) {
                case "add": return v.add(x);
                case "wipe": return v.wipe();
                case "draft": return v.draft(x);
                case "text": return v.text();
                case "size": return v.size(x);
                case "line": return v.line(x, y);
                case "copy": return v.copy(x);
                case "state": return v.state(x);
                case "missing": return v.missing(x);
                case "lay": return v.lay(x, y);
                case "take": return v.take(x);
                case "load": return v.load(x);
                case "shelf": return v.shelf();
                case "on": return v.on(x, y);
                case "step": return v.step(x, y, z);
                case "of": return v.of(x, y);
                case "reaches": return v.reaches(x, y);
                case "base": return v.base(x, y, z);
                case "head": return v.head(x, y);
                case "diff": return v.diff(x, y);
                case "kept": return v.kept(x, y);
                case "merge": return v.merge(x, y, z);
                case "conflict": return v.conflict(x, y, z);
                case "settle": return v.settle(x, y);
                case "merged": return v.merged();
                case "join": return v.join(x, y);
                case "joining": return v.joining(x);
                case "becomes": return v.becomes(x);
                case "mend": return v.mend(x, y);
                case "joined": return v.joined();
                case "blame": return v.blame(x, y, z);
                case "renamed": return v.renamed(x, y);
                case "mark": return v.mark(x, y);
                case "question": return v.question();
                case "ask": return v.ask();
                case "found": return v.found();
                case "pack": return v.pack();
                case "stem": return v.stem(x);
                case "units": return v.units();
                case "sweep": return v.sweep();
                case "lose": return v.lose(x);
                default: return v.count(x);
            }
        }
    }

    private static final class Text {
        List<Integer> lines;
        boolean lost;
        boolean gone;
        Integer stem;
    }

    private static final class Shelf {
        TreeMap<Integer, Integer> names = new TreeMap<>();
        boolean gone;
    }

    private static final class Step {
        int shelf;
        List<Integer> parents = new ArrayList<>();
        int mark;
    }

    private static final class Place {
        List<List<Integer>> spans = new ArrayList<>();
        boolean conflict;
        List<Integer> comes;
        int settled = -1;
        Integer anchor;
    }

    /** The document's words, as plainly and slowly as they can be followed. */
    private static final class Model {
        List<Integer> draft = new ArrayList<>();
        List<Text> texts = new ArrayList<>();
        TreeMap<Integer, Integer> basket = new TreeMap<>();
        List<Shelf> shelves = new ArrayList<>();
        List<Step> steps = new ArrayList<>();
        Integer[] heads = new Integer[8];
        List<int[]> diffAtHand;
        List<Place> mergeAtHand;
        TreeMap<Integer, Integer> joinAtHand;
        int joinBase;
        int joinS;
        int joinT;
        static final Map<List<List<Integer>>, List<int[]>> KNOWN = new HashMap<>();

        int add(int line) {
            if (draft.size() == 24) {
                return -2;
            }
            draft.add(line);
            return draft.size();
        }

        int wipe() {
            int had = draft.size();
            draft = new ArrayList<>();
            return had;
        }

        int draft(int i) {
            return i >= 0 && i < draft.size() ? draft.get(i) : 0;
        }

        int text() {
            int t = asText(draft);
            if (t != -2) {
                draft = new ArrayList<>();
            }
            return t;
        }

        int asText(List<Integer> lines) {
            for (int t = 0; t < texts.size(); t++) {
                Text it = texts.get(t);
                if (!it.gone && it.lines.equals(lines)) {
                    if (missing(t) != -1) {
                        it.lost = false;
                        it.stem = null;
                    }
                    return t;
                }
            }
            if (texts.size() == 120) {
                return -2;
            }
            Text made = new Text();
            made.lines = new ArrayList<>(lines);
            texts.add(made);
            return texts.size() - 1;
        }

        boolean there(int t) {
            return t >= 0 && t < texts.size() && !texts.get(t).gone;
        }

        boolean canRead(int t) {
            return there(t) && missing(t) == -1;
        }

        int size(int t) {
            return canRead(t) ? texts.get(t).lines.size() : -2;
        }

        int line(int t, int i) {
            return i >= 0 && i < size(t) ? texts.get(t).lines.get(i) : 0;
        }

        int copy(int t) {
            if (!canRead(t)) {
                return -2;
            }
            draft = new ArrayList<>(texts.get(t).lines);
            return draft.size();
        }

        int state(int t) {
            if (t < 0 || t >= texts.size()) {
                return -2;
            }
            Text it = texts.get(t);
            return it.gone ? 3 : it.lost ? 2 : it.stem != null ? 1 : 0;
        }

        int missing(int t) {
            if (!there(t)) {
                return -2;
            }
            if (texts.get(t).lost) {
                return t;
            }
            return texts.get(t).stem == null ? -1 : missing(texts.get(t).stem);
        }

        boolean name(int name) {
            return name >= 0 && name <= 15;
        }

        int orNone(Integer it) {
            return it == null ? -1 : it;
        }

        int lay(int name, int t) {
            return !name(name) || !there(t) ? -2 : orNone(basket.put(name, t));
        }

        int take(int name) {
            return !name(name) ? -2 : orNone(basket.remove(name));
        }

        boolean shelfThere(int shelf) {
            return shelf >= 0 && shelf < shelves.size() && !shelves.get(shelf).gone;
        }

        int load(int shelf) {
            if (!shelfThere(shelf)) {
                return -2;
            }
            basket = new TreeMap<>(shelves.get(shelf).names);
            return basket.size();
        }

        int shelf() {
            int number = asShelf(basket);
            if (number != -2) {
                basket = new TreeMap<>();
            }
            return number;
        }

        int asShelf(TreeMap<Integer, Integer> names) {
            for (int t : names.values()) {
                if (texts.get(t).gone) {
                    return -2;
                }
            }
            for (int i = 0; i < shelves.size(); i++) {
                if (!shelves.get(i).gone && shelves.get(i).names.equals(names)) {
                    return i;
                }
            }
            if (shelves.size() == 100) {
                return -2;
            }
            Shelf made = new Shelf();
            made.names = new TreeMap<>(names);
            shelves.add(made);
            return shelves.size() - 1;
        }

        int on(int shelf, int name) {
            return !shelfThere(shelf) || !name(name) ? -2 : orNone(shelves.get(shelf).names.get(name));
        }

        boolean isStep(int s) {
            return s >= 0 && s < steps.size();
        }

        int step(int shelf, int p, int q) {
            if (!shelfThere(shelf) || (p != -1 && !isStep(p)) || (q != -1 && !isStep(q))) {
                return -2;
            }
            if (q != -1 && (p == -1 || p == q)) {
                return -2;
            }
            if (steps.size() == 80) {
                return -2;
            }
            Step made = new Step();
            made.shelf = shelf;
            if (p != -1) {
                made.parents.add(p);
            }
            if (q != -1) {
                made.parents.add(q);
            }
            steps.add(made);
            return steps.size() - 1;
        }

        TreeSet<Integer> ancestors(int s) {
            TreeSet<Integer> all = new TreeSet<>();
            List<Integer> due = new ArrayList<>(List.of(s));
            while (!due.isEmpty()) {
                int here = due.remove(0);
                if (all.add(here)) {
                    due.addAll(steps.get(here).parents);
                }
            }
            return all;
        }

        int of(int step, int what) {
            if (!isStep(step) || what < 0 || what > 3) {
                return -2;
            }
            Step it = steps.get(step);
            if (what == 0) {
                return it.shelf;
            }
            if (what == 3) {
                return ancestors(step).size();
            }
            return what <= it.parents.size() ? it.parents.get(what - 1) : -1;
        }

        int reaches(int s, int t) {
            if (!isStep(s) || !isStep(t)) {
                return -2;
            }
            return ancestors(s).contains(t) ? 1 : 0;
        }

        List<Integer> bases(int s, int t) {
            TreeSet<Integer> common = ancestors(s);
            common.retainAll(ancestors(t));
            List<Integer> bases = new ArrayList<>();
            for (int c : common) {
                boolean best = true;
                for (int d : common) {
                    best &= d == c || !ancestors(d).contains(c);
                }
                if (best) {
                    bases.add(c);
                }
            }
            return bases;
        }

        int base(int s, int t, int k) {
            if (!isStep(s) || !isStep(t) || k < 0) {
                return -2;
            }
            List<Integer> bases = bases(s, t);
            return k < bases.size() ? bases.get(k) : -1;
        }

        int head(int h, int s) {
            if (h < 0 || h > 7 || (s != -1 && !isStep(s))) {
                return -2;
            }
            if (s != -1) {
                for (int c : ancestors(s)) {
                    if (shelves.get(steps.get(c).shelf).gone) {
                        return -2;
                    }
                }
            }
            int was = orNone(heads[h]);
            heads[h] = s == -1 ? null : s;
            return was;
        }

        /** The best row of PAIRS, sought over every first PAIR. */
        static List<int[]> theDiff(List<Integer> a, List<Integer> b) {
            List<List<Integer>> key = List.of(a, b);
            List<int[]> known = KNOWN.get(key);
            if (known == null) {
                if (KNOWN.size() > 20000) {
                    KNOWN.clear();
                }
                known = diffFrom(a, b, 0, 0, new ArrayList<>(java.util.Collections.nCopies(25 * 25, null)));
                KNOWN.put(key, known);
            }
            return known;
        }

        static List<int[]> diffFrom(List<Integer> a, List<Integer> b, int i, int j, List<List<int[]>> seen) {
            if (seen.get(i * 25 + j) != null) {
                return seen.get(i * 25 + j);
            }
            List<int[]> best = new ArrayList<>();
            for (int x = i; x < a.size(); x++) {
                for (int y = j; y < b.size(); y++) {
                    if (a.get(x).equals(b.get(y))) {
                        List<int[]> rest = diffFrom(a, b, x + 1, y + 1, seen);
                        // By rising x, then y: a later one must have more to be better.
                        if (rest.size() + 1 > best.size()) {
                            best = new ArrayList<>();
                            best.add(new int[] {x, y});
                            best.addAll(rest);
                        }
                    }
                }
            }
            seen.set(i * 25 + j, best);
            return best;
        }

        List<Integer> lines(int t) {
            return t == -1 ? List.of() : texts.get(t).lines;
        }

        int diff(int a, int b) {
            if (!canRead(a) || !canRead(b)) {
                return -2;
            }
            diffAtHand = theDiff(lines(a), lines(b));
            return lines(a).size() + lines(b).size() - 2 * diffAtHand.size();
        }

        int kept(int k, int side) {
            if (diffAtHand == null || k < 0 || k >= diffAtHand.size() || side < 0 || side > 1) {
                return -1;
            }
            return diffAtHand.get(k)[side];
        }

        static List<Place> theMerge(List<Integer> o, List<Integer> a, List<Integer> b) {
            List<int[]> anchors = new ArrayList<>();
            for (int[] p : theDiff(o, a)) {
                for (int[] q : theDiff(o, b)) {
                    if (p[0] == q[0]) {
                        anchors.add(new int[] {p[0], p[1], q[1]});
                    }
                }
            }
            anchors.add(new int[] {o.size(), a.size(), b.size()});
            List<Place> places = new ArrayList<>();
            int[] from = {0, 0, 0};
            for (int[] to : anchors) {
                Place place = new Place();
                place.spans.add(o.subList(from[0], to[0]));
                place.spans.add(a.subList(from[1], to[1]));
                place.spans.add(b.subList(from[2], to[2]));
                if (place.spans.get(1).equals(place.spans.get(0))) {
                    place.comes = place.spans.get(2);
                } else if (place.spans.get(2).equals(place.spans.get(0))) {
                    place.comes = place.spans.get(1);
                } else if (place.spans.get(1).equals(place.spans.get(2))) {
                    place.comes = place.spans.get(1);
                } else {
                    place.conflict = true;
                }
                place.anchor = to[0] < o.size() ? o.get(to[0]) : null;
                places.add(place);
                from = new int[] {to[0] + 1, to[1] + 1, to[2] + 1};
            }
            return places;
        }

        int merge(int o, int a, int b) {
            if (!canRead(o) || !canRead(a) || !canRead(b)) {
                return -2;
            }
            mergeAtHand = theMerge(lines(o), lines(a), lines(b));
            return conflicts().size();
        }

        List<Place> conflicts() {
            List<Place> open = new ArrayList<>();
            if (mergeAtHand != null) {
                for (Place place : mergeAtHand) {
                    if (place.conflict) {
                        open.add(place);
                    }
                }
            }
            return open;
        }

        int conflict(int c, int side, int i) {
            if (c < 0 || c >= conflicts().size() || side < 0 || side > 5) {
                return -2000000000;
            }
            List<Integer> span = conflicts().get(c).spans.get(side % 3);
            if (side > 2) {
                return span.size();
            }
            return i >= 0 && i < span.size() ? span.get(i) : -2000000000;
        }

        int settle(int c, int how) {
            if (c < 0 || c >= conflicts().size() || how < -1 || how > 4) {
                return -2;
            }
            int was = conflicts().get(c).settled;
            conflicts().get(c).settled = how;
            return was;
        }

        /** The lines, or null when a CONFLICT is open or there are too many. */
        static List<Integer> outcome(List<Place> places) {
            List<Integer> all = new ArrayList<>();
            for (Place place : places) {
                if (!place.conflict) {
                    all.addAll(place.comes);
                } else if (place.settled == -1) {
                    return null;
                } else if (place.settled == 3) {
                    all.addAll(place.spans.get(1));
                    all.addAll(place.spans.get(2));
                } else if (place.settled < 3) {
                    all.addAll(place.spans.get(place.settled));
                }
                if (place.anchor != null) {
                    all.add(place.anchor);
                }
            }
            return all.size() > 24 ? null : all;
        }

        int merged() {
            List<Integer> all = mergeAtHand == null ? null : outcome(mergeAtHand);
            if (all == null) {
                return -2;
            }
            draft = all;
            return all.size();
        }

        /** What each NAME becomes: a number, -1, -3, or lines; null when a text can not be READ. */
        TreeMap<Integer, Object> joinOver(int base, int s, int t) {
            TreeMap<Integer, Object> all = new TreeMap<>();
            for (int name = 0; name < 16; name++) {
                int o = base == -1 ? -1 : on(steps.get(base).shelf, name);
                int a = on(steps.get(s).shelf, name);
                int b = on(steps.get(t).shelf, name);
                if (a == b) {
                    all.put(name, a);
                } else if (a == o) {
                    all.put(name, b);
                } else if (b == o) {
                    all.put(name, a);
                } else if (a != -1 && b != -1) {
                    if (!canRead(a) || !canRead(b) || (o != -1 && !canRead(o))) {
                        return null;
                    }
                    List<Integer> lines = outcome(theMerge(lines(o), lines(a), lines(b)));
                    all.put(name, lines == null ? (Object) (-3) : lines);
                } else {
                    all.put(name, -3);
                }
            }
            return all;
        }

        int join(int s, int t) {
            if (!isStep(s) || !isStep(t) || reaches(s, t) == 1 || reaches(t, s) == 1) {
                return -2;
            }
            List<Integer> bases = bases(s, t);
            List<Integer> used = new ArrayList<>(bases);
            used.add(s);
            used.add(t);
            for (int c : used) {
                if (shelves.get(steps.get(c).shelf).gone) {
                    return -2;
                }
            }
            if (bases.isEmpty()) {
                bases.add(-1);
            }
            int fewest = 99;
            int taken = -1;
            TreeMap<Integer, Object> best = null;
            for (int base : bases) {
                TreeMap<Integer, Object> all = joinOver(base, s, t);
                if (all == null) {
                    return -2;
                }
                int clashes = java.util.Collections.frequency(all.values(), -3);
                if (clashes < fewest) {
                    fewest = clashes;
                    taken = base;
                    best = all;
                }
            }
            TreeSet<String> fresh = new TreeSet<>();
            for (Object it : best.values()) {
                if (it instanceof List<?> lines) {
                    boolean known = false;
                    for (Text text : texts) {
                        known |= !text.gone && text.lines.equals(lines);
                    }
                    if (!known) {
                        fresh.add(lines.toString());
                    }
                }
            }
            if (texts.size() + fresh.size() > 120) {
                return -2;
            }
            joinAtHand = new TreeMap<>();
            for (int name = 0; name < 16; name++) {
                Object it = best.get(name);
                if (it instanceof List<?> lines) {
                    List<Integer> row = new ArrayList<>();
                    for (Object line : lines) {
                        row.add((Integer) line);
                    }
                    joinAtHand.put(name, asText(row));
                } else {
                    joinAtHand.put(name, (Integer) it);
                }
            }
            joinBase = taken;
            joinS = s;
            joinT = t;
            return fewest;
        }

        int joining(int what) {
            if (joinAtHand == null || what < 0 || what > 2) {
                return -2;
            }
            if (what == 0) {
                return joinBase;
            }
            int clashes = 0;
            int least = -1;
            for (int name = 15; name >= 0; name--) {
                if (joinAtHand.get(name) == -3) {
                    clashes++;
                    least = name;
                }
            }
            return what == 1 ? clashes : least;
        }

        int becomes(int name) {
            return joinAtHand == null || !name(name) ? -2 : joinAtHand.get(name);
        }

        int mend(int name, int t) {
            if (joinAtHand == null || !name(name) || (t != -1 && !there(t))) {
                return -2;
            }
            return joinAtHand.put(name, t);
        }

        int joined() {
            if (joinAtHand == null || joinAtHand.containsValue(-3) || steps.size() == 80) {
                return -2;
            }
            TreeMap<Integer, Integer> names = new TreeMap<>();
            for (int name = 0; name < 16; name++) {
                if (joinAtHand.get(name) != -1) {
                    names.put(name, joinAtHand.get(name));
                }
            }
            int shelf = asShelf(names);
            if (shelf == -2) {
                return -2;
            }
            joinAtHand = null;
            return step(shelf, joinS, joinT);
        }

        int blame(int s, int name, int i) {
            if (!isStep(s) || !name(name)) {
                return -2;
            }
            int t = on(steps.get(s).shelf, name);
            if (t == -2) {
                return -2;
            }
            if (t == -1) {
                return -1;
            }
            if (!canRead(t)) {
                return -2;
            }
            if (i < 0 || i >= size(t)) {
                return -1;
            }
            if (steps.get(s).parents.isEmpty()) {
                return s;
            }
            int p = steps.get(s).parents.get(0);
            int u = on(steps.get(p).shelf, name);
            if (u == -2) {
                return -2;
            }
            if (u == -1) {
                return s;
            }
            if (!canRead(u)) {
                return -2;
            }
            for (int[] pair : theDiff(lines(u), lines(t))) {
                if (pair[1] == i) {
                    return blame(p, name, pair[0]);
                }
            }
            return s;
        }

        int renamed(int s, int name) {
            if (!isStep(s) || !name(name) || steps.get(s).parents.isEmpty()) {
                return -2;
            }
            Shelf now = shelves.get(steps.get(s).shelf);
            Shelf before = shelves.get(steps.get(steps.get(s).parents.get(0)).shelf);
            if (now.gone || before.gone) {
                return -2;
            }
            TreeSet<Integer> old = new TreeSet<>(before.names.keySet());
            old.removeAll(now.names.keySet());
            TreeSet<Integer> fresh = new TreeSet<>(now.names.keySet());
            fresh.removeAll(before.names.keySet());
            for (int n : old) {
                if (!canRead(before.names.get(n))) {
                    return -2;
                }
            }
            for (int n : fresh) {
                if (!canRead(now.names.get(n))) {
                    return -2;
                }
            }
            List<int[]> pairs = new ArrayList<>();
            for (int p : old) {
                for (int q : fresh) {
                    List<Integer> a = lines(before.names.get(p));
                    List<Integer> b = lines(now.names.get(q));
                    int common = theDiff(a, b).size();
                    if (common >= 1 && common >= Math.max(a.size(), b.size()) / 2.0) {
                        pairs.add(new int[] {-common, p, q});
                    }
                }
            }
            pairs.sort(Arrays::compare);
            while (!pairs.isEmpty()) {
                int[] told = pairs.get(0);
                if (told[2] == name) {
                    return told[1];
                }
                pairs.removeIf(it -> it[1] == told[1] || it[2] == told[2]);
            }
            return -1;
        }

        int mark(int s, int how) {
            if (!isStep(s) || how < 0 || how > 2) {
                return -2;
            }
            int was = steps.get(s).mark;
            steps.get(s).mark = how;
            return was;
        }

        int leastBad() {
            for (int s = 0; s < steps.size(); s++) {
                if (steps.get(s).mark == 2) {
                    return s;
                }
            }
            return -1;
        }

        TreeSet<Integer> inQuestion() {
            if (leastBad() == -1) {
                return new TreeSet<>();
            }
            TreeSet<Integer> all = ancestors(leastBad());
            for (int s = 0; s < steps.size(); s++) {
                if (steps.get(s).mark == 1) {
                    all.removeAll(ancestors(s));
                }
            }
            return all;
        }

        int question() {
            return inQuestion().size();
        }

        int ask() {
            TreeSet<Integer> all = inQuestion();
            if (all.size() < 2) {
                return -1;
            }
            int best = -1;
            int least = 999;
            for (int s : all) {
                if (s != leastBad()) {
                    TreeSet<Integer> in = new TreeSet<>(all);
                    in.retainAll(ancestors(s));
                    int greater = Math.max(in.size(), all.size() - in.size());
                    if (greater < least) {
                        least = greater;
                        best = s;
                    }
                }
            }
            return best;
        }

        int found() {
            TreeSet<Integer> all = inQuestion();
            return all.size() == 1 ? all.first() : -1;
        }

        int depth(int t) {
            return texts.get(t).stem == null ? 0 : 1 + depth(texts.get(t).stem);
        }

        int deltaUnits(int stem, int t) {
            return 2 + lines(stem).size() + lines(t).size() - 2 * theDiff(lines(stem), lines(t)).size();
        }

        int pack() {
            for (int t = 0; t < texts.size(); t++) {
                if (canRead(t)) {
                    int fewest = 1 + lines(t).size();
                    Integer stem = null;
                    for (int u = 0; u < t; u++) {
                        if (canRead(u) && depth(u) <= 3 && deltaUnits(u, t) < fewest) {
                            fewest = deltaUnits(u, t);
                            stem = u;
                        }
                    }
                    texts.get(t).stem = stem;
                }
            }
            int deltas = 0;
            for (int t = 0; t < texts.size(); t++) {
                deltas += state(t) == 1 ? 1 : 0;
            }
            return deltas;
        }

        int stem(int t) {
            return !there(t) ? -2 : orNone(texts.get(t).stem);
        }

        int units() {
            int sum = 0;
            for (int t = 0; t < texts.size(); t++) {
                if (state(t) == 0) {
                    sum += 1 + lines(t).size();
                } else if (state(t) == 1) {
                    sum += canRead(t) ? deltaUnits(texts.get(t).stem, t) : 2;
                }
            }
            return sum;
        }

        TreeSet<Integer> reachedShelves() {
            TreeSet<Integer> all = new TreeSet<>();
            for (Integer h : heads) {
                if (h != null) {
                    for (int s : ancestors(h)) {
                        all.add(steps.get(s).shelf);
                    }
                }
            }
            return all;
        }

        TreeSet<Integer> reachedTexts() {
            TreeSet<Integer> all = new TreeSet<>();
            for (int shelf : reachedShelves()) {
                for (Integer t : shelves.get(shelf).names.values()) {
                    for (Integer u = t; u != null; u = texts.get(u).stem) {
                        all.add(u);
                    }
                }
            }
            return all;
        }

        int sweep() {
            TreeSet<Integer> keptShelves = reachedShelves();
            TreeSet<Integer> keptTexts = reachedTexts();
            int went = 0;
            for (int t = 0; t < texts.size(); t++) {
                if (!keptTexts.contains(t) && !texts.get(t).gone) {
                    texts.get(t).gone = true;
                    went++;
                }
            }
            for (int i = 0; i < shelves.size(); i++) {
                if (!keptShelves.contains(i)) {
                    shelves.get(i).gone = true;
                }
            }
            return went;
        }

        int lose(int t) {
            if (!there(t)) {
                return -2;
            }
            if (texts.get(t).lost) {
                return 0;
            }
            texts.get(t).lost = true;
            texts.get(t).stem = null;
            return 1;
        }

        int count(int what) {
            int n = 0;
            switch (what) {
                case 0: return texts.size();
                case 1: return shelves.size();
                case 2: return steps.size();
                case 3:
                    for (Text it : texts) {
                        n += it.gone ? 0 : 1;
                    }
                    return n;
                case 4:
                    for (Shelf it : shelves) {
                        n += it.gone ? 0 : 1;
                    }
                    return n;
                case 5: return draft.size();
                case 6: return basket.size();
                case 7:
                    for (Text it : texts) {
                        n += !it.gone && it.lost ? 1 : 0;
                    }
                    return n;
                case 8: return reachedTexts().size();
                default: return -2;
            }
        }
    }
}
