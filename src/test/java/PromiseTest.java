/** Each promise of the document by plain runs of calls: ordinary ones, the edges that it names, and wrong ones. */
public final class PromiseTest {
    private static final int MIN = Integer.MIN_VALUE;
    private static final int MAX = Integer.MAX_VALUE;
    private static int wrong = 0;
    private static int promise = 0;

    public static void main(String[] args) {
        newObject();
        draftCalls();
        texts();
        textsUpTo120();
        copies();
        conditions();
        baskets();
        shelvesUpTo100();
        steps();
        stepsUpTo80();
        rootsUpTo80();
        bases();
        heads();
        diffs();
        merges();
        settling();
        mergedLimits();
        joins();
        joinCases();
        joinBases();
        joinRefusals();
        joinMakesTexts();
        joinMakesFullTexts();
        joinedRefusals();
        blames();
        renames();
        bisecting();
        packing();
        packDepth();
        packTies();
        packUpTo120();
        sweeping();
        counts();
        System.out.println(wrong == 0 ? "the promises hold" : wrong + " answers are not as due");
        if (wrong != 0) {
            System.exit(1);
        }
    }

    private static void due(String call, int got, int want) {
        if (got != want) {
            wrong++;
            System.out.println("promise " + promise + ": " + call + " answered " + got + ", due is " + want);
        }
    }

    private static int text(VersionVault v, int... lines) {
        v.wipe();
        for (int line : lines) {
            v.add(line);
        }
        return v.text();
    }

    /** A shelf of name, text, name, text. */
    private static int shelf(VersionVault v, int... names) {
        for (int name = 0; name < 16; name++) {
            v.take(name);
        }
        for (int i = 0; i + 1 < names.length; i += 2) {
            v.lay(names[i], names[i + 1]);
        }
        return v.shelf();
    }

    private static int[] upTo(int n) {
        int[] all = new int[n];
        for (int i = 0; i < n; i++) {
            all[i] = i + 1;
        }
        return all;
    }

    private static void lines(VersionVault v, String what, int t, int... want) {
        due("size of " + what, v.size(t), want.length);
        for (int i = 0; i < want.length; i++) {
            due("line " + i + " of " + what, v.line(t, i), want[i]);
        }
    }

    private static void drafted(VersionVault v, String what, int... want) {
        due("lines of the draft, " + what, v.count(5), want.length);
        for (int i = 0; i < want.length; i++) {
            due("draft " + i + ", " + what, v.draft(i), want[i]);
        }
    }

    private static void newObject() {
        promise = 1;
        VersionVault v = new VersionVault();
        for (int what = 0; what <= 8; what++) {
            due("count(" + what + ")", v.count(what), 0);
        }
        due("wipe", v.wipe(), 0);
        due("kept", v.kept(0, 0), -1);
        due("conflict", v.conflict(0, 3, 0), -2000000000);
        due("settle", v.settle(0, 0), -2);
        due("merged", v.merged(), -2);
        due("joining", v.joining(0), -2);
        due("becomes", v.becomes(0), -2);
        due("mend", v.mend(0, -1), -2);
        due("joined", v.joined(), -2);
        due("question", v.question(), 0);
        due("ask", v.ask(), -1);
        due("found", v.found(), -1);
        due("units", v.units(), 0);
        due("pack", v.pack(), 0);
        due("sweep", v.sweep(), 0);
        for (int h = 0; h < 8; h++) {
            due("head", v.head(h, -1), -1);
        }
        for (int name = 0; name < 16; name++) {
            due("take", v.take(name), -1);
        }
    }

    private static void draftCalls() {
        VersionVault v = new VersionVault();
        for (int i = 0; i < 24; i++) {
            promise = 2;
            due("add " + i, v.add(100 - i), i + 1);
        }
        due("add a 25th", v.add(7), -2);
        promise = 4;
        due("draft(0)", v.draft(0), 100);
        due("draft(23)", v.draft(23), 77);
        due("draft(24)", v.draft(24), 0);
        due("draft(-1)", v.draft(-1), 0);
        due("draft(MIN)", v.draft(MIN), 0);
        due("draft(MAX)", v.draft(MAX), 0);
        promise = 3;
        due("wipe", v.wipe(), 24);
        due("wipe again", v.wipe(), 0);
        due("draft(0) after wipe", v.draft(0), 0);
        promise = 2;
        due("add MIN", v.add(MIN), 1);
        due("draft MIN", v.draft(0), MIN);
    }

    private static void texts() {
        promise = 5;
        VersionVault v = new VersionVault();
        due("the text without lines", v.text(), 0);
        due("again", v.text(), 0);
        due("1 2", text(v, 1, 2), 1);
        due("draft is empty then", v.count(5), 0);
        due("2 1", text(v, 2, 1), 2);
        due("1", text(v, 1), 3);
        due("1 2 again", text(v, 1, 2), 1);
        promise = 6;
        due("size(0)", v.size(0), 0);
        due("size(1)", v.size(1), 2);
        due("size(4)", v.size(4), -2);
        due("size(-1)", v.size(-1), -2);
        due("size(MIN)", v.size(MIN), -2);
        promise = 7;
        due("line(2, 0)", v.line(2, 0), 2);
        due("line(2, 1)", v.line(2, 1), 1);
        due("line(2, 2)", v.line(2, 2), 0);
        due("line(2, -1)", v.line(2, -1), 0);
        due("line(4, 0)", v.line(4, 0), 0);
        due("line(-1, 0)", v.line(-1, 0), 0);
        VersionVault w = new VersionVault();
        text(w, upTo(24));
        text(w, 9);
        due("the last line of a full one", w.line(0, 23), 24);
        due("none behind it", w.line(0, 24), 0);
        due("none below the next one", w.line(1, -1), 0);
        promise = 5;
        v.lose(1);
        due("1 2 found again", text(v, 1, 2), 1);
        due("it is loose", v.state(1), 0);
        due("sweep", v.sweep(), 4);
        due("1 2 is new after the sweep", text(v, 1, 2), 4);
    }

    private static void textsUpTo120() {
        promise = 5;
        VersionVault v = new VersionVault();
        for (int t = 0; t < 120; t++) {
            v.add(t);
            due("text " + t, v.text(), t);
        }
        v.add(500);
        due("a 121st", v.text(), -2);
        due("the draft stays", v.count(5), 1);
        due("one that is there", text(v, 5), 5);
        due("sweep", v.sweep(), 120);
        v.add(5);
        due("those that are gone count", v.text(), -2);
        due("count(0)", v.count(0), 120);
    }

    private static void copies() {
        promise = 8;
        VersionVault v = new VersionVault();
        text(v, 4, 5, 6);
        v.add(1);
        v.add(2);
        due("copy", v.copy(0), 3);
        drafted(v, "copied", 4, 5, 6);
        due("copy(1)", v.copy(1), -2);
        due("copy(-1)", v.copy(-1), -2);
        v.lose(0);
        due("copy of a lost one", v.copy(0), -2);
        drafted(v, "after refusals", 4, 5, 6);
        due("found again", v.text(), 0);
        v.sweep();
        due("copy of a gone one", v.copy(0), -2);
    }

    private static void conditions() {
        VersionVault v = new VersionVault();
        text(v, 1, 2, 3, 4, 5, 6);
        text(v, 1, 2, 3, 4, 5, 6, 7);
        text(v, 1, 2, 3, 4, 5, 6, 7, 8);
        promise = 9;
        due("state(0)", v.state(0), 0);
        due("pack", v.pack(), 2);
        due("state(1)", v.state(1), 1);
        due("state(3)", v.state(3), -2);
        due("state(-1)", v.state(-1), -2);
        promise = 39;
        due("stem(0)", v.stem(0), -1);
        due("stem(1)", v.stem(1), 0);
        due("stem(2)", v.stem(2), 1);
        due("stem(3)", v.stem(3), -2);
        due("stem(-1)", v.stem(-1), -2);
        promise = 10;
        due("missing(2)", v.missing(2), -1);
        due("missing(3)", v.missing(3), -2);
        due("missing(-1)", v.missing(-1), -2);
        promise = 42;
        due("lose(1)", v.lose(1), 1);
        due("lose(1) again", v.lose(1), 0);
        due("lose(3)", v.lose(3), -2);
        due("lose(-1)", v.lose(-1), -2);
        promise = 9;
        due("state of a lost one", v.state(1), 2);
        due("its delta", v.state(2), 1);
        promise = 39;
        due("a lost one has no stem", v.stem(1), -1);
        due("its delta has", v.stem(2), 1);
        promise = 10;
        due("missing of a lost one", v.missing(1), 1);
        due("missing of its delta", v.missing(2), 1);
        due("lose(0)", v.lose(0), 1);
        due("the first one from it on", v.missing(2), 1);
        promise = 6;
        due("size of the lost", v.size(1), -2);
        due("size of its delta", v.size(2), -2);
        promise = 7;
        due("line of its delta", v.line(2, 0), 0);
        promise = 5;
        due("a delta that can not be read is found again", text(v, 1, 2, 3, 4, 5, 6, 7, 8), 2);
        due("and is loose", v.state(2), 0);
        due("without a stem", v.stem(2), -1);
        due("the other one stays lost", v.state(1), 2);
        due("a lost one is found again", text(v, 1, 2, 3, 4, 5, 6, 7), 1);
        due("and is loose, too", v.state(1), 0);
        v.lose(0);
        v.pack();
        due("a delta that can be read", text(v, 1, 2, 3, 4, 5, 6, 7, 8), 2);
        due("stays a delta", v.state(2), 1);
        promise = 9;
        v.sweep();
        for (int t = 0; t < 3; t++) {
            due("state of a gone one", v.state(t), 3);
        }
        promise = 10;
        due("missing of a gone one", v.missing(0), -2);
        promise = 39;
        due("stem of a gone one", v.stem(2), -2);
        promise = 42;
        due("lose a gone one", v.lose(0), -2);
        promise = 6;
        due("size of a gone one", v.size(1), -2);
        promise = 7;
        due("line of a gone one", v.line(1, 0), 0);
    }

    private static void baskets() {
        VersionVault v = new VersionVault();
        text(v, 1);
        text(v, 2);
        promise = 11;
        due("lay(0, 0)", v.lay(0, 0), -1);
        due("lay(0, 1)", v.lay(0, 1), 0);
        due("lay(15, 1)", v.lay(15, 1), -1);
        due("lay(16, 1)", v.lay(16, 1), -2);
        due("lay(-1, 1)", v.lay(-1, 1), -2);
        due("lay(0, 2)", v.lay(0, 2), -2);
        due("lay(0, -1)", v.lay(0, -1), -2);
        promise = 12;
        due("take(0)", v.take(0), 1);
        due("take(0) again", v.take(0), -1);
        due("take(16)", v.take(16), -2);
        due("take(-1)", v.take(-1), -2);
        promise = 14;
        v.lay(0, 0);
        due("shelf", v.shelf(), 0);
        due("the basket is empty then", v.count(6), 0);
        due("an empty shelf", v.shelf(), 1);
        v.lay(15, 1);
        v.lay(0, 0);
        due("one just like it", v.shelf(), 0);
        v.lay(15, 1);
        due("one with fewer names", v.shelf(), 2);
        promise = 15;
        due("on(0, 0)", v.on(0, 0), 0);
        due("on(0, 1)", v.on(0, 1), -1);
        due("on(0, 15)", v.on(0, 15), 1);
        due("on(0, 16)", v.on(0, 16), -2);
        due("on(0, -1)", v.on(0, -1), -2);
        due("on(3, 0)", v.on(3, 0), -2);
        due("on(-1, 0)", v.on(-1, 0), -2);
        promise = 13;
        v.lay(7, 1);
        due("load(0)", v.load(0), 2);
        due("in place of others", v.take(7), -1);
        due("its names", v.take(15), 1);
        due("load(1)", v.load(1), 0);
        due("nothing is left", v.count(6), 0);
        due("load(3)", v.load(3), -2);
        due("load(-1)", v.load(-1), -2);
        promise = 14;
        v.lay(3, 0);
        v.lose(1);
        due("a lost text can be laid", v.lay(4, 1), -1);
        v.sweep();
        due("a text in it is gone", v.shelf(), -2);
        due("the basket stays", v.count(6), 2);
        promise = 11;
        due("lay a gone one", v.lay(5, 0), -2);
        due("the one that it had, though gone", v.lay(3, text(v, 9)), 0);
        promise = 14;
        due("still a gone one", v.shelf(), -2);
        v.take(4);
        due("now there is none", v.shelf(), 3);
        promise = 13;
        due("load a gone one", v.load(0), -2);
        promise = 15;
        due("on a gone one", v.on(0, 0), -2);
        promise = 16;
        due("step of a gone one", v.step(0, -1, -1), -2);
    }

    private static void shelvesUpTo100() {
        promise = 14;
        VersionVault v = new VersionVault();
        for (int t = 0; t < 100; t++) {
            v.add(t);
            v.lay(3, v.text());
            due("shelf " + t, v.shelf(), t);
        }
        v.lay(4, 0);
        due("a 101st", v.shelf(), -2);
        due("the basket stays", v.take(4), 0);
        v.lay(3, 99);
        due("one that is there", v.shelf(), 99);
        v.step(0, -1, -1);
        v.head(0, 0);
        v.sweep();
        due("those that are gone count", v.count(1), 100);
        due("no new one", v.shelf(), -2);
        v.lay(3, 0);
        due("one that is there still", v.shelf(), 0);
    }

    private static void steps() {
        VersionVault v = new VersionVault();
        v.shelf();
        promise = 16;
        due("no such shelf", v.step(1, -1, -1), -2);
        due("nor this", v.step(-1, -1, -1), -2);
        due("no parent there", v.step(0, 0, -1), -2);
        due("first", v.step(0, -1, -1), 0);
        due("second", v.step(0, 0, -1), 1);
        due("third", v.step(0, 0, -1), 2);
        due("of both", v.step(0, 2, 1), 3);
        due("q without p", v.step(0, -1, 1), -2);
        due("q is p", v.step(0, 1, 1), -2);
        due("p is below -1", v.step(0, -2, -1), -2);
        due("q is below -1", v.step(0, 0, -2), -2);
        due("p is not there", v.step(0, 4, -1), -2);
        due("q is not there", v.step(0, 0, 4), -2);
        due("another root", v.step(0, -1, -1), 4);
        promise = 17;
        due("of(3, 0)", v.of(3, 0), 0);
        due("of(3, 1)", v.of(3, 1), 2);
        due("of(3, 2)", v.of(3, 2), 1);
        due("of(3, 3)", v.of(3, 3), 4);
        due("of(1, 1)", v.of(1, 1), 0);
        due("of(1, 2)", v.of(1, 2), -1);
        due("of(0, 1)", v.of(0, 1), -1);
        due("of(0, 3)", v.of(0, 3), 1);
        due("of(0, 4)", v.of(0, 4), -2);
        due("of(0, -1)", v.of(0, -1), -2);
        due("of(5, 0)", v.of(5, 0), -2);
        due("of(-1, 0)", v.of(-1, 0), -2);
        promise = 18;
        due("reaches(3, 0)", v.reaches(3, 0), 1);
        due("reaches(3, 3)", v.reaches(3, 3), 1);
        due("reaches(0, 3)", v.reaches(0, 3), 0);
        due("reaches(1, 2)", v.reaches(1, 2), 0);
        due("reaches(3, 4)", v.reaches(3, 4), 0);
        due("reaches(5, 0)", v.reaches(5, 0), -2);
        due("reaches(0, 5)", v.reaches(0, 5), -2);
        due("reaches(-1, 0)", v.reaches(-1, 0), -2);
        due("reaches(0, -1)", v.reaches(0, -1), -2);
        promise = 17;
        v.sweep();
        due("of tells a gone shelf", v.of(3, 0), 0);
    }

    private static void stepsUpTo80() {
        VersionVault v = new VersionVault();
        int shelf = shelf(v, 0, text(v, 1));
        promise = 16;
        for (int s = 0; s < 80; s++) {
            due("step " + s, v.step(shelf, s - 1, -1), s);
        }
        due("an 81st", v.step(shelf, -1, -1), -2);
        promise = 17;
        due("its ancestors", v.of(79, 3), 80);
        due("of(63, 3)", v.of(63, 3), 64);
        due("of(64, 3)", v.of(64, 3), 65);
        promise = 18;
        due("reaches(79, 0)", v.reaches(79, 0), 1);
        due("reaches(79, 64)", v.reaches(79, 64), 1);
        due("reaches(63, 64)", v.reaches(63, 64), 0);
        promise = 19;
        due("base(79, 70, 0)", v.base(79, 70, 0), 70);
        due("base(79, 70, 1)", v.base(79, 70, 1), -1);
        promise = 32;
        due("blame through all", v.blame(79, 0, 0), 0);
        v.mark(79, 2);
        promise = 35;
        due("question", v.question(), 80);
        promise = 36;
        due("ask", v.ask(), 39);
        v.mark(70, 1);
        due("question above 64", v.question(), 9);
        due("ask above 64", v.ask(), 74);
        v.mark(78, 1);
        promise = 37;
        due("found", v.found(), 79);
    }

    private static void rootsUpTo80() {
        VersionVault v = new VersionVault();
        v.shelf();
        for (int s = 0; s < 80; s++) {
            v.step(0, -1, -1);
        }
        for (int s = 0; s < 80; s++) {
            promise = 17;
            due("a root's ancestors", v.of(s, 3), 1);
            promise = 18;
            due("a root does not reach the next", v.reaches(s, (s + 1) % 80), 0);
            due("nor one 64 off", v.reaches(s, (s + 64) % 80), 0);
        }
        promise = 19;
        due("no base of two roots", v.base(64, 0, 0), -1);
    }

    private static void bases() {
        promise = 19;
        VersionVault v = new VersionVault();
        v.shelf();
        v.step(0, -1, -1);
        v.step(0, 0, -1);
        v.step(0, 0, -1);
        v.step(0, 1, 2);
        v.step(0, 2, 1);
        v.step(0, -1, -1);
        due("two bases, the first", v.base(3, 4, 0), 1);
        due("two bases, the second", v.base(3, 4, 1), 2);
        due("no third", v.base(3, 4, 2), -1);
        due("of the root's children", v.base(1, 2, 0), 0);
        due("one the ancestor", v.base(3, 1, 0), 1);
        due("and no more", v.base(3, 1, 1), -1);
        due("of itself", v.base(3, 3, 0), 3);
        due("nothing in common", v.base(3, 5, 0), -1);
        due("k below 0", v.base(3, 4, -1), -2);
        due("k far off", v.base(3, 4, MAX), -1);
        due("no step", v.base(6, 0, 0), -2);
        due("no step either", v.base(0, 6, 0), -2);
        due("below 0", v.base(-1, 0, 0), -2);
    }

    private static void heads() {
        promise = 20;
        VersionVault v = new VersionVault();
        int a = shelf(v, 0, text(v, 1));
        int b = shelf(v, 0, text(v, 2));
        v.step(a, -1, -1);
        v.step(b, 0, -1);
        v.step(b, -1, -1);
        due("head(0, 2)", v.head(0, 2), -1);
        due("head(0, 1)", v.head(0, 1), 2);
        due("head(7, 2)", v.head(7, 2), -1);
        due("head(8, 2)", v.head(8, 2), -2);
        due("head(-1, 2)", v.head(-1, 2), -2);
        due("head(0, 3)", v.head(0, 3), -2);
        due("head(0, -2)", v.head(0, -2), -2);
        due("none", v.head(0, -1), 1);
        due("none again", v.head(0, -1), -1);
        v.sweep();
        due("its own shelf is gone", v.head(0, 0), -2);
        due("an ancestor's shelf is gone", v.head(0, 1), -2);
        due("nothing of it is gone", v.head(0, 2), -1);
        due("still the one", v.head(7, -1), 2);
        promise = 16;
        due("a step on a parent without shelf", v.step(b, 0, -1), 3);
        promise = 20;
        due("is no head", v.head(1, 3), -2);
    }

    private static void pairs(VersionVault v, String what, int... want) {
        for (int k = 0; 2 * k < want.length; k++) {
            due("left " + k + " of " + what, v.kept(k, 0), want[2 * k]);
            due("right " + k + " of " + what, v.kept(k, 1), want[2 * k + 1]);
        }
        due("no more of " + what, v.kept(want.length / 2, 0), -1);
    }

    private static void diffs() {
        VersionVault v = new VersionVault();
        int abc = text(v, 1, 2, 3);
        int cab = text(v, 3, 1, 2);
        int ab = text(v, 1, 2);
        int ba = text(v, 2, 1);
        int aa = text(v, 1, 1);
        int a = text(v, 1);
        int none = text(v);
        int longer = text(v, 2, 1, 2, 1);
        promise = 21;
        due("abc, cab", v.diff(abc, cab), 2);
        promise = 22;
        pairs(v, "abc, cab", 0, 1, 1, 2);
        due("no such side", v.kept(0, 2), -1);
        due("no such side either", v.kept(0, -1), -1);
        due("k below 0", v.kept(-1, 0), -1);
        due("k far off", v.kept(MAX, 0), -1);
        promise = 21;
        due("itself", v.diff(abc, abc), 0);
        pairs(v, "abc, abc", 0, 0, 1, 1, 2, 2);
        due("ab, ba: the lesser i", v.diff(ab, ba), 2);
        pairs(v, "ab, ba", 0, 1);
        due("a, aa: the lesser j", v.diff(a, aa), 1);
        pairs(v, "a, aa", 0, 0);
        due("aa, a", v.diff(aa, a), 1);
        pairs(v, "aa, a", 0, 0);
        due("ab, baba", v.diff(ab, longer), 2);
        pairs(v, "ab, baba", 0, 1, 1, 2);
        due("none", v.diff(none, abc), 3);
        pairs(v, "none");
        due("none at all", v.diff(none, none), 0);
        due("abc, ab", v.diff(abc, ab), 1);
        due("no such text", v.diff(abc, 99), -2);
        due("no such text either", v.diff(-1, abc), -2);
        v.lose(cab);
        due("a lost one", v.diff(cab, abc), -2);
        due("a lost one behind", v.diff(abc, cab), -2);
        promise = 22;
        pairs(v, "the one at hand still", 0, 0, 1, 1);
        v.sweep();
        pairs(v, "the one at hand though swept", 0, 0, 1, 1);
        promise = 21;
        due("a gone one", v.diff(abc, abc), -2);
        int full = text(v, upTo(24));
        due("the longest", v.diff(full, full), 0);
        due("the last pair", v.kept(23, 1), 23);
    }

    private static void span(VersionVault v, int c, int side, int... want) {
        due("length of span " + side + " of " + c, v.conflict(c, side + 3, MIN), want.length);
        for (int i = 0; i < want.length; i++) {
            due("line " + i + " of span " + side + " of " + c, v.conflict(c, side, i), want[i]);
        }
        due("no more in span " + side + " of " + c, v.conflict(c, side, want.length), -2000000000);
        due("none below in span " + side + " of " + c, v.conflict(c, side, -1), -2000000000);
    }

    private static void merges() {
        VersionVault v = new VersionVault();
        int o = text(v, 1, 2, 3, 4, 5, 6, 7);
        int a = text(v, 8, 1, 3, 4, 10, 6, 7, 11);
        int b = text(v, 1, 2, 3, 4, 12, 13, 6, 7, 14);
        promise = 23;
        due("merge", v.merge(o, a, b), 2);
        promise = 24;
        span(v, 0, 0, 5);
        span(v, 0, 1, 10);
        span(v, 0, 2, 12, 13);
        span(v, 1, 0);
        span(v, 1, 1, 11);
        span(v, 1, 2, 14);
        due("no such conflict", v.conflict(2, 3, 0), -2000000000);
        due("below 0", v.conflict(-1, 3, 0), -2000000000);
        due("no such side", v.conflict(0, 6, 0), -2000000000);
        due("no such side below", v.conflict(0, -1, 0), -2000000000);
        promise = 25;
        due("settle(0, 2)", v.settle(0, 2), -1);
        promise = 26;
        due("one is not settled", v.merged(), -2);
        promise = 25;
        due("settle(1, 3)", v.settle(1, 3), -1);
        promise = 26;
        v.add(77);
        due("merged", v.merged(), 10);
        drafted(v, "merged", 8, 1, 3, 4, 12, 13, 6, 7, 11, 14);
        due("merged again", v.merged(), 10);
        drafted(v, "merged again, in place of others", 8, 1, 3, 4, 12, 13, 6, 7, 11, 14);
        promise = 23;
        due("both alike", v.merge(o, a, a), 0);
        v.merged();
        drafted(v, "both alike", 8, 1, 3, 4, 10, 6, 7, 11);
        due("a is o", v.merge(o, o, b), 0);
        v.merged();
        drafted(v, "a is o", 1, 2, 3, 4, 12, 13, 6, 7, 14);
        due("b is o", v.merge(o, a, o), 0);
        v.merged();
        drafted(v, "b is o", 8, 1, 3, 4, 10, 6, 7, 11);
        int none = text(v);
        due("over none", v.merge(none, a, b), 1);
        due("its span", v.conflict(0, 4, 0), 8);
        due("no such text", v.merge(99, a, b), -2);
        due("no such text a", v.merge(o, -1, b), -2);
        due("no such text b", v.merge(o, a, 99), -2);
        due("the one at hand stays", v.conflict(0, 5, 0), 9);
        v.settle(0, 1);
        due("merge anew", v.merge(none, a, b), 1);
        promise = 25;
        due("none is settled then", v.settle(0, -1), -1);
        v.lose(b);
        promise = 23;
        due("o is lost", v.merge(b, o, a), -2);
        due("a is lost", v.merge(o, b, a), -2);
        due("b is lost", v.merge(o, a, b), -2);
        v.sweep();
        promise = 24;
        due("with the lines of now", v.conflict(0, 2, 5), 13);
        v.settle(0, 2);
        promise = 26;
        due("merged though swept", v.merged(), 9);
        drafted(v, "though swept", 1, 2, 3, 4, 12, 13, 6, 7, 14);
    }

    private static void settling() {
        promise = 25;
        VersionVault v = new VersionVault();
        int o = text(v, 1, 2, 3);
        int a = text(v, 1, 4, 3);
        int b = text(v, 1, 5, 3);
        due("merge", v.merge(o, a, b), 1);
        int[][] all = {{1, 2, 3}, {1, 4, 3}, {1, 5, 3}, {1, 4, 5, 3}, {1, 3}};
        for (int how = 0; how <= 4; how++) {
            due("settle " + how, v.settle(0, how), how - 1);
            due("merged", v.merged(), all[how].length);
            drafted(v, "settled " + how, all[how]);
        }
        due("no such how", v.settle(0, 5), -2);
        due("no such how below", v.settle(0, -2), -2);
        due("no such conflict", v.settle(1, 0), -2);
        due("no such conflict below", v.settle(-1, 0), -2);
        due("not settled any more", v.settle(0, -1), 4);
        promise = 26;
        due("merged", v.merged(), -2);
        drafted(v, "as it was", 1, 3);
        promise = 23;
        due("a takes what b changes", v.merge(o, text(v, 1, 3), b), 1);
        due("both take", v.merge(o, text(v, 1, 3), text(v, 1, 3)), 0);
        due("merged", v.merged(), 2);
        due("apart by an anchor", v.merge(o, text(v, 9, 2, 3), text(v, 1, 2, 8)), 0);
        due("merged", v.merged(), 3);
        drafted(v, "apart", 9, 2, 8);
        due("side by side", v.merge(o, text(v, 9, 2, 3), text(v, 1, 8, 3)), 1);
        due("span of o", v.conflict(0, 3, 0), 2);
    }

    private static void mergedLimits() {
        promise = 26;
        VersionVault v = new VersionVault();
        int o = text(v, 1, 2, 3, 4);
        int a = text(v, 5, 5, 5, 5, 5, 5, 5, 5, 5, 5, 1, 2, 3, 4);
        int b = text(v, 1, 2, 3, 4, 6, 6, 6, 6, 6, 6, 6, 6, 6, 6);
        due("24 lines", v.merge(o, a, b), 0);
        due("merged", v.merged(), 24);
        int c = text(v, 1, 2, 3, 4, 6, 6, 6, 6, 6, 6, 6, 6, 6, 6, 6);
        v.add(3);
        due("25 lines", v.merge(o, a, c), 0);
        due("merged", v.merged(), -2);
        drafted(v, "refused", 3);
        int none = text(v);
        int full = text(v, upTo(24));
        due("48 lines", v.merge(none, full, c), 1);
        v.settle(0, 3);
        due("merged", v.merged(), -2);
        v.settle(0, 1);
        due("merged", v.merged(), 24);
    }

    private static void joins() {
        VersionVault v = new VersionVault();
        int o = text(v, 1, 2, 3);
        int a = text(v, 1, 2, 4);
        int b = text(v, 0, 2, 3);
        int c = text(v, 1, 2, 5);
        int root = v.step(shelf(v, 0, o, 1, o, 2, o), -1, -1);
        int s = v.step(shelf(v, 0, a, 1, a, 3, a), root, -1);
        int t = v.step(shelf(v, 0, b, 1, c, 2, o, 4, b), root, -1);
        v.add(42);
        v.lay(9, o);
        promise = 27;
        due("join", v.join(s, t), 1);
        promise = 28;
        due("the base", v.joining(0), root);
        due("clashes", v.joining(1), 1);
        due("the least", v.joining(2), 1);
        due("no such what", v.joining(3), -2);
        due("no such what below", v.joining(-1), -2);
        promise = 29;
        int merged = v.becomes(0);
        due("a text came of the merge", merged, 4);
        lines(v, "the merge", merged, 0, 2, 4);
        due("a clash", v.becomes(1), -3);
        due("s took it, t left it", v.becomes(2), -1);
        due("s brought it", v.becomes(3), a);
        due("t brought it", v.becomes(4), b);
        due("nobody has it", v.becomes(5), -1);
        due("no such name", v.becomes(16), -2);
        due("no such name below", v.becomes(-1), -2);
        promise = 31;
        due("joined with a clash", v.joined(), -2);
        promise = 30;
        due("no such name", v.mend(16, o), -2);
        due("no such name below", v.mend(-1, o), -2);
        due("no such text", v.mend(1, 5), -2);
        due("no such text below", v.mend(1, -2), -2);
        due("mend", v.mend(1, c), -3);
        due("mend again", v.mend(1, a), c);
        due("mend none", v.mend(4, -1), b);
        due("mend a name that nobody has", v.mend(15, o), -1);
        promise = 28;
        due("no clash", v.joining(1), 0);
        due("no least one", v.joining(2), -1);
        promise = 31;
        int step = v.joined();
        due("joined", step, 3);
        due("first parent", v.of(step, 1), s);
        due("second parent", v.of(step, 2), t);
        int[] want = {merged, a, -1, a, -1, -1, -1, -1, -1, -1, -1, -1, -1, -1, -1, o};
        for (int name = 0; name < 16; name++) {
            due("name " + name, v.on(v.of(step, 0), name), want[name]);
        }
        due("none at hand then", v.joined(), -2);
        promise = 28;
        due("none at hand", v.joining(0), -2);
        promise = 29;
        due("none at hand", v.becomes(0), -2);
        promise = 30;
        due("none at hand", v.mend(0, -1), -2);
        promise = 27;
        drafted(v, "joining leaves the draft alone", 42);
        due("and the basket", v.take(9), o);
    }

    /** Every case of the terms for o, a, b of one name, each over a base that has it or not. */
    private static void joinCases() {
        promise = 27;
        VersionVault v = new VersionVault();
        int x = text(v, 1);
        int y = text(v, 2);
        int z = text(v, 3);
        int none = -1;
        int[][] cases = {
            {x, x, x, x}, {x, y, y, y}, {x, x, y, y}, {x, y, x, y}, {x, y, z, -3}, {none, y, y, y}, {none, y, z, -3},
            {none, none, y, y}, {none, y, none, y}, {x, none, none, none}, {x, x, none, none}, {x, none, x, none},
            {x, none, y, -3}, {x, y, none, -3}};
        for (int i = 0; i < cases.length; i++) {
            int[] c = cases[i];
            int root = v.step(c[0] == none ? shelf(v, 9, x) : shelf(v, 9, x, 5, c[0]), -1, -1);
            int s = v.step(c[1] == none ? shelf(v, 9, x) : shelf(v, 9, x, 5, c[1]), root, -1);
            int t = v.step(c[2] == none ? shelf(v, 9, x) : shelf(v, 9, x, 5, c[2]), root, -1);
            due("case " + i, v.join(s, t), c[3] == -3 ? 1 : 0);
            due("becomes in case " + i, v.becomes(5), c[3]);
            due("the other name in case " + i, v.becomes(9), x);
        }
    }

    private static void joinBases() {
        promise = 27;
        VersionVault v = new VersionVault();
        int x = text(v, 1);
        int y = text(v, 2);
        int z = text(v, 3);
        v.step(shelf(v), -1, -1);
        int first = v.step(shelf(v, 0, z), 0, -1);
        int second = v.step(shelf(v, 0, x), 0, -1);
        int s = v.step(shelf(v, 0, x), first, second);
        int t = v.step(shelf(v, 0, y), first, second);
        due("two bases", v.base(s, t, 1), second);
        due("the fewest clashes", v.join(s, t), 0);
        due("over the second", v.joining(0), second);
        due("becomes", v.becomes(0), y);
        int u = v.step(shelf(v, 0, z), second, first);
        due("equal ones", v.join(u, v.step(shelf(v, 0, z, 1, z), first, second)), 0);
        due("the least", v.joining(0), first);
        int r = v.step(shelf(v, 0, x, 1, y), -1, -1);
        due("no base", v.join(t, r), 1);
        due("is none", v.joining(0), -1);
        due("the other name", v.becomes(1), y);
        int empty = text(v);
        int e = v.step(shelf(v, 0, empty), -1, -1);
        due("over no lines one without lines is no clash", v.join(t, e), 0);
        due("becomes", v.becomes(0), y);
    }

    private static void joinRefusals() {
        promise = 27;
        VersionVault v = new VersionVault();
        int o = text(v, 1, 2, 3);
        int a = text(v, 1, 2, 4);
        int b = text(v, 0, 2, 3);
        int other = text(v, 9);
        int root = v.step(shelf(v, 0, o), -1, -1);
        int s = v.step(shelf(v, 0, a, 1, other), root, -1);
        int t = v.step(shelf(v, 0, b), root, -1);
        due("no step", v.join(3, s), -2);
        due("no step either", v.join(s, -1), -2);
        due("itself", v.join(s, s), -2);
        due("its ancestor", v.join(s, root), -2);
        due("its child", v.join(root, s), -2);
        due("none at hand", v.joining(0), -2);
        v.lose(other);
        for (int lost : new int[] {o, a, b}) {
            v.lose(lost);
            due("text " + lost + " is lost", v.join(s, t), -2);
            v.copy(lost);
            text(v, lost == o ? new int[] {1, 2, 3} : lost == a ? new int[] {1, 2, 4} : new int[] {0, 2, 3});
        }
        due("a lost one that is not to be merged", v.join(s, t), 0);
        due("a lost one stays", v.state(other), 2);
        due("becomes", v.becomes(1), other);
        v.head(0, s);
        int r = v.step(shelf(v, 0, a), -1, -1);
        v.sweep();
        due("its shelf is gone", v.join(s, t), -2);
        due("its shelf is gone, too", v.join(r, s), -2);
        due("the one at hand stays", v.becomes(1), other);
        v.head(0, -1);
        v.sweep();
        int fresh = shelf(v, 0, text(v, 6));
        int p = v.step(fresh, root, -1);
        int q = v.step(fresh, root, -1);
        due("the base's shelf is gone", v.join(p, q), -2);
    }

    private static void joinMakesTexts() {
        promise = 27;
        VersionVault v = new VersionVault();
        int o = text(v, 1, 2, 3);
        int a = text(v, 1, 2, 4);
        int b = text(v, 0, 2, 3);
        int c = text(v, 1, 2, 5);
        int root = v.step(shelf(v, 0, o, 1, o, 2, o), -1, -1);
        int s = v.step(shelf(v, 0, a, 1, c, 2, a), root, -1);
        int t = v.step(shelf(v, 0, b, 1, b, 2, b), root, -1);
        for (int n = 4; n < 119; n++) {
            v.add(1000 + n);
            due("text", v.text(), n);
        }
        due("two new ones, and room for one", v.join(s, t), -2);
        due("nothing was made", v.count(0), 119);
        int u = v.step(shelf(v, 0, a, 2, a), root, -1);
        int w = v.step(shelf(v, 0, b, 2, b), root, -1);
        due("one for both names", v.join(u, w), 0);
        due("the same one", v.becomes(0), 119);
        due("the same one here", v.becomes(2), 119);
        due("one was made", v.count(0), 120);
        v.lose(119);
        due("one that was lost", v.join(u, w), 0);
        due("is found", v.state(119), 0);
        due("as it was", v.line(119, 2), 4);
        due("another one is one too many", v.join(s, t), -2);
    }

    private static void joinMakesFullTexts() {
        promise = 27;
        VersionVault v = new VersionVault();
        int[] lines = upTo(24);
        int o = text(v, lines);
        lines[0] = 50;
        int a = text(v, lines);
        lines[0] = 1;
        lines[23] = 60;
        int b = text(v, lines);
        int root = v.step(shelf(v, 0, o, 1, o), -1, -1);
        int s = v.step(shelf(v, 0, a, 1, a), root, -1);
        int t = v.step(shelf(v, 0, b, 1, b), root, -1);
        due("join", v.join(s, t), 0);
        due("the same text for both", v.becomes(1), v.becomes(0));
        lines[0] = 50;
        lines(v, "a full merge", v.becomes(1), lines);
        v.add(70);
        for (int i = 0; i < 23; i++) {
            v.add(i + 1);
        }
        int longer = v.text();
        int u = v.step(shelf(v, 0, longer), -1, -1);
        int w = v.step(shelf(v, 0, b), -1, -1);
        due("two full ones over none", v.join(u, w), 1);
        int p = v.step(shelf(v, 0, text(v, 1)), -1, -1);
        int q = v.step(shelf(v, 0, text(v, 80, 81, 1)), p, -1);
        int[] behind = upTo(24);
        int r = v.step(shelf(v, 0, text(v, behind)), p, -1);
        due("26 lines are a clash", v.join(q, r), 1);
        due("becomes", v.becomes(0), -3);
        due("no text was made of it", v.count(0), 7);
    }

    private static void joinedRefusals() {
        promise = 31;
        VersionVault v = new VersionVault();
        int x = text(v, 1);
        int y = text(v, 2);
        int root = v.step(shelf(v, 0, x), -1, -1);
        int s = v.step(shelf(v, 0, y), root, -1);
        int t = v.step(shelf(v, 0, x, 1, x), root, -1);
        due("join", v.join(s, t), 0);
        v.head(0, root);
        v.sweep();
        due("a text of it is gone", v.joined(), -2);
        promise = 29;
        due("it stays as it is", v.becomes(0), y);
        promise = 30;
        due("mend with a gone one", v.mend(2, y), -2);
        due("mend", v.mend(0, x), y);
        promise = 31;
        due("no text of it is gone now", v.joined(), 3);
        due("its shelf is new", v.of(3, 0), 3);
        VersionVault w = new VersionVault();
        x = text(w, 1);
        y = text(w, 2);
        int a = shelf(w, 0, x);
        int b = shelf(w, 1, y);
        int c = shelf(w, 0, x, 1, y);
        w.step(a, -1, -1);
        w.step(b, -1, -1);
        due("join", w.join(0, 1), 0);
        due("a shelf that is there", w.joined(), 2);
        due("is that", w.of(2, 0), c);
        due("join", w.join(0, 1), 0);
        for (int n = 3; n < 80; n++) {
            w.step(a, -1, -1);
        }
        due("80 steps", w.joined(), -2);
        due("still at hand", w.joining(0), -1);
        VersionVault f = new VersionVault();
        x = text(f, 1);
        y = text(f, 2);
        f.step(shelf(f, 0, x), -1, -1);
        f.step(shelf(f, 1, y), -1, -1);
        due("join", f.join(0, 1), 0);
        for (int n = 2; n < 100; n++) {
            f.lay(n % 10 + 2, f.count(0) > n / 10 ? n / 10 : 0);
            f.lay(15, n % 2);
            f.add(n + 50);
            f.lay(14, f.text());
            due("shelf", f.shelf(), n);
        }
        due("100 shelves", f.joined(), -2);
        due("still at hand", f.joining(1), 0);
        f.mend(1, -1);
        due("one that is there", f.joined(), 2);
        due("is that", f.of(2, 0), 0);
    }

    private static void blames() {
        promise = 32;
        VersionVault v = new VersionVault();
        int a = text(v, 1, 2);
        int b = text(v, 1, 3, 2);
        int c = text(v, 4, 1, 3, 2);
        v.step(shelf(v, 0, a), -1, -1);
        v.step(shelf(v, 0, b, 1, a), 0, -1);
        v.step(shelf(v, 0, b, 2, a), 1, -1);
        v.step(shelf(v, 0, c), 2, -1);
        due("line 0", v.blame(3, 0, 0), 3);
        due("line 1", v.blame(3, 0, 1), 0);
        due("line 2", v.blame(3, 0, 2), 1);
        due("line 3", v.blame(3, 0, 3), 0);
        due("no line 4", v.blame(3, 0, 4), -1);
        due("no line -1", v.blame(3, 0, -1), -1);
        due("no such name there", v.blame(3, 1, 0), -1);
        due("the parent has not the name", v.blame(1, 1, 0), 1);
        due("nor here", v.blame(2, 2, 1), 2);
        due("no step", v.blame(4, 0, 0), -2);
        due("no step below", v.blame(-1, 0, 0), -2);
        due("no name", v.blame(3, 16, 0), -2);
        due("no name below", v.blame(3, -1, 0), -2);
        v.step(shelf(v, 0, a), -1, -1);
        v.step(shelf(v, 0, c), 4, 3);
        due("by first parents alone", v.blame(5, 0, 0), 5);
        due("by the first parent", v.blame(5, 0, 1), 4);
        v.lose(a);
        due("a text on the way can not be read", v.blame(3, 0, 1), -2);
        due("not so far", v.blame(3, 0, 0), 3);
        due("but this", v.blame(3, 0, 2), -2);
        due("its own text", v.blame(0, 0, 0), -2);
        text(v, 1, 2);
        v.step(shelf(v, 5, a), -1, -1);
        v.head(0, 6);
        v.sweep();
        due("its own shelf is gone", v.blame(0, 0, 0), -2);
        int s = v.step(shelf(v, 5, a), 3, -1);
        due("a shelf on the way is gone", v.blame(s, 5, 0), -2);
        due("no line, no way", v.blame(s, 5, 2), -1);
    }

    private static void renames() {
        promise = 33;
        VersionVault v = new VersionVault();
        int a = text(v, 1, 2, 3, 4);
        int b = text(v, 1, 2, 8, 9);
        int c = text(v, 1, 7, 8, 9);
        int d = text(v, 1, 2, 3, 4, 5);
        int none = text(v);
        v.step(shelf(v, 0, a, 1, a, 9, a), -1, -1);
        v.step(shelf(v, 2, b, 3, d, 9, c), 0, -1);
        due("the most lines", v.renamed(1, 3), 0);
        due("then the rest", v.renamed(1, 2), 1);
        due("a name that was there", v.renamed(1, 9), -1);
        due("a name that went", v.renamed(1, 0), -1);
        due("a name that nobody has", v.renamed(1, 15), -1);
        due("no parent", v.renamed(0, 0), -2);
        due("no step", v.renamed(2, 0), -2);
        due("no step below", v.renamed(-1, 0), -2);
        due("no name", v.renamed(1, 16), -2);
        due("no name below", v.renamed(1, -1), -2);
        v.step(shelf(v, 2, c), 0, -1);
        due("less than half", v.renamed(2, 2), -1);
        v.step(shelf(v, 2, b, 3, b, 4, b), 0, -1);
        due("of equal ones the least old", v.renamed(3, 2), 0);
        due("then the next", v.renamed(3, 3), 1);
        due("then the last", v.renamed(3, 4), 9);
        v.step(shelf(v, 5, none), 0, -1);
        due("no line", v.renamed(4, 5), -1);
        v.step(shelf(v, 6, none), 4, -1);
        due("no line of both", v.renamed(5, 6), -1);
        v.step(shelf(v, 2, a, 3, d), 3, 0);
        due("by the first parent", v.renamed(6, 2), -1);
        int three = text(v, 1, 2, 3);
        v.step(shelf(v, 2, text(v, 1, 2, 3, 6, 6, 6, 6)), 0, -1);
        due("3 of 7 are less than half", v.renamed(7, 2), -1);
        v.step(shelf(v, 0, three), -1, -1);
        v.step(shelf(v, 1, text(v, 1, 2, 9)), 8, -1);
        due("2 of 3", v.renamed(9, 1), 0);
        v.step(shelf(v, 1, text(v, 1, 8, 9)), 8, -1);
        due("1 of 3", v.renamed(10, 1), -1);
        v.lose(a);
        due("an old one is lost", v.renamed(1, 3), -2);
        text(v, 1, 2, 3, 4);
        v.lose(c);
        due("one that stays may be lost", v.renamed(1, 3), 0);
        v.lose(d);
        due("a new one is lost", v.renamed(1, 2), -2);
        v.head(0, 8);
        v.sweep();
        due("its shelf is gone", v.renamed(9, 1), -2);
        int s = v.step(shelf(v, 0, three), 9, -1);
        due("its parent's is gone", v.renamed(s, 0), -2);
    }

    private static void bisecting() {
        VersionVault v = new VersionVault();
        v.shelf();
        v.step(0, -1, -1);
        v.step(0, 0, -1);
        v.step(0, 1, -1);
        v.step(0, 1, -1);
        v.step(0, 2, 3);
        v.step(0, 4, -1);
        promise = 34;
        due("mark(5, 2)", v.mark(5, 2), 0);
        due("mark(5, 2) again", v.mark(5, 2), 2);
        due("mark(0, 1)", v.mark(0, 1), 0);
        due("mark(0, 3)", v.mark(0, 3), -2);
        due("mark(0, -1)", v.mark(0, -1), -2);
        due("mark(6, 0)", v.mark(6, 0), -2);
        due("mark(-1, 0)", v.mark(-1, 0), -2);
        due("mark(0, 0)", v.mark(0, 0), 1);
        promise = 35;
        due("question", v.question(), 6);
        promise = 36;
        due("ask: 2 has three, 3 has three: the least", v.ask(), 2);
        promise = 37;
        due("not found", v.found(), -1);
        v.mark(2, 1);
        promise = 35;
        due("question", v.question(), 3);
        promise = 36;
        due("ask", v.ask(), 3);
        v.mark(3, 1);
        due("ask", v.ask(), 4);
        v.mark(4, 2);
        promise = 35;
        due("the least bad one counts", v.question(), 1);
        promise = 37;
        due("found", v.found(), 4);
        promise = 36;
        due("fewer than two", v.ask(), -1);
        v.mark(5, 1);
        promise = 35;
        due("a bad one behind a good one", v.question(), 0);
        promise = 37;
        due("none", v.found(), -1);
        promise = 36;
        due("none", v.ask(), -1);
        v.mark(4, 0);
        promise = 35;
        due("none is bad", v.question(), 0);
        VersionVault w = new VersionVault();
        w.shelf();
        w.step(0, -1, -1);
        w.step(0, 0, -1);
        w.mark(1, 2);
        promise = 36;
        due("but for the bad one", w.ask(), 0);
    }

    private static void packing() {
        VersionVault v = new VersionVault();
        text(v, 1, 2, 3, 4, 5, 6);
        text(v, 1, 2, 3, 4, 5, 7);
        text(v, 9, 9, 9);
        text(v, 9, 9);
        promise = 40;
        due("all are loose", v.units(), 7 + 7 + 4 + 3);
        promise = 38;
        due("pack", v.pack(), 1);
        due("a delta", v.stem(1), 0);
        due("a delta must have fewer units", v.stem(3), -1);
        due("it is loose", v.state(3), 0);
        promise = 40;
        due("units", v.units(), 7 + 4 + 4 + 3);
        lines(v, "a delta", 1, 1, 2, 3, 4, 5, 7);
        v.lose(0);
        due("a delta that can not be read has 2", v.units(), 2 + 4 + 3);
        promise = 38;
        due("others stay as they are", v.pack(), 1);
        due("its stem", v.stem(1), 0);
        text(v, 1, 2, 3, 4, 5, 7, 8);
        due("no delta of one that can not be read", v.pack(), 1);
        due("loose", v.state(4), 0);
        text(v, 1, 2, 3, 4, 5, 6);
        due("pack anew", v.pack(), 2);
        due("its stem", v.stem(4), 1);
        v.lose(4);
        promise = 40;
        due("lost ones have none", v.units(), 7 + 4 + 4 + 3);
        v.sweep();
        due("gone ones have none", v.units(), 0);
        promise = 38;
        due("gone ones are no deltas", v.pack(), 0);
        text(v, 1, 2, 3, 4, 5, 6);
        due("nor stems", v.pack(), 0);
    }

    private static void packDepth() {
        promise = 38;
        VersionVault v = new VersionVault();
        for (int n = 0; n < 7; n++) {
            v.wipe();
            for (int i = 0; i < 14; i++) {
                v.add(i < 2 * n ? 100 + i : i);
            }
            due("text", v.text(), n);
        }
        due("pack", v.pack(), 6);
        int[] stems = {-1, 0, 1, 2, 3, 3, 3};
        for (int t = 0; t < 7; t++) {
            due("stem of " + t, v.stem(t), stems[t]);
        }
        promise = 40;
        due("units", v.units(), 15 + 4 * 6 + 10 + 14);
        v.lose(3);
        promise = 10;
        due("missing", v.missing(6), 3);
        due("not missing", v.missing(2), -1);
        promise = 38;
        due("pack with a lost one", v.pack(), 5);
        due("stays", v.stem(4), 3);
    }

    private static void packTies() {
        promise = 38;
        VersionVault v = new VersionVault();
        text(v, 1, 2, 3, 4, 5, 6);
        text(v, 1, 2, 3, 4, 5, 7);
        text(v, 1, 2, 3, 4, 5, 8);
        text(v, 1, 2, 3, 4, 5);
        text(v, 1, 2, 3, 4, 5, 6, 7, 8);
        due("pack", v.pack(), 4);
        due("of equal ones the least", v.stem(2), 0);
        due("the fewest", v.stem(3), 0);
        due("the fewest of all", v.stem(4), 0);
        VersionVault w = new VersionVault();
        text(w, 1, 2);
        text(w, 1, 2, 3);
        due("as few as loose", w.pack(), 1);
        due("3 are fewer than 4", w.stem(1), 0);
        VersionVault u = new VersionVault();
        text(u, 1, 2, 3);
        text(u, 1, 2);
        due("3 are not fewer than 3", u.pack(), 0);
    }

    private static void packUpTo120() {
        promise = 38;
        VersionVault v = new VersionVault();
        for (int t = 0; t < 120; t++) {
            v.wipe();
            for (int i = 0; i < 24; i++) {
                v.add(i == t % 24 ? 100 + t : i);
            }
            due("text", v.text(), t);
        }
        due("all but the first", v.pack(), 119);
        due("the last", v.stem(119), 23);
        due("another one", v.stem(23), 0);
        due("by its own place", v.stem(100), 4);
        promise = 40;
        // Places 1 to 23 differ from text 0 in two lines each; later ones from their like in one alone.
        due("units", v.units(), 25 + 23 * 6 + 96 * 4);
    }

    private static void sweeping() {
        promise = 41;
        VersionVault v = new VersionVault();
        text(v, 1, 2, 3, 4, 5, 6);
        text(v, 1, 2, 3, 4, 5, 7);
        text(v, 8);
        text(v, 9);
        text(v, 10);
        v.step(shelf(v, 0, 1), -1, -1);
        v.step(shelf(v, 3, 2), 0, -1);
        v.step(shelf(v, 0, 3), 1, -1);
        v.step(shelf(v, 0, 4), 1, 2);
        v.pack();
        v.head(5, 1);
        v.lose(4);
        promise = 43;
        due("reached", v.count(8), 3);
        promise = 41;
        v.lay(7, 3);
        due("sweep", v.sweep(), 2);
        due("a stem stays", v.state(0), 0);
        due("a delta stays", v.state(1), 1);
        due("an ancestor's text stays", v.state(1), 1);
        due("the head's text stays", v.state(2), 0);
        due("the rest is gone", v.state(3), 3);
        due("lost ones, too", v.state(4), 3);
        due("a shelf of an ancestor stays", v.on(0, 0), 1);
        due("the head's stays", v.on(1, 3), 2);
        due("the rest is gone", v.on(2, 0), -2);
        due("the basket stays", v.take(7), 3);
        due("sweep again", v.sweep(), 0);
        promise = 43;
        due("count(0)", v.count(0), 5);
        due("count(1)", v.count(1), 4);
        due("count(2)", v.count(2), 4);
        due("count(3)", v.count(3), 3);
        due("count(4)", v.count(4), 2);
        due("count(7)", v.count(7), 0);
        shelf(v, 8, 0);
        due("count(4) and one more", v.count(4), 3);
        v.lose(0);
        due("count(7)", v.count(7), 1);
        promise = 41;
        due("a reached one that is lost stays", v.sweep(), 0);
        due("lost", v.state(0), 2);
        VersionVault w = new VersionVault();
        for (int n = 0; n < 8; n++) {
            w.step(shelf(w, n, text(w, n)), -1, -1);
            w.head(n, n);
        }
        due("every head counts", w.sweep(), 0);
        w.head(7, -1);
        due("all but the last", w.sweep(), 1);
        due("which is gone", w.state(7), 3);
    }

    private static void counts() {
        promise = 43;
        VersionVault v = new VersionVault();
        text(v, 1);
        text(v, 2);
        v.add(5);
        v.lay(1, 0);
        v.lay(2, 0);
        v.lay(2, 1);
        due("count(5)", v.count(5), 1);
        due("count(6)", v.count(6), 2);
        due("count(9)", v.count(9), -2);
        due("count(-1)", v.count(-1), -2);
        due("count(MIN)", v.count(MIN), -2);
        due("count(8)", v.count(8), 0);
    }
}
