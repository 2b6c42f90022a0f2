import java.util.ArrayList;
import java.util.List;

/** Every place of the document's face where a register is named; all other arguments are right for Sample.fresh(). */
final class Calls {
    /** A call with a register of the tester's choice in one place. */
    interface Call {
        int on(TermSpread t, int register);
    }

    /** Where a term is put: what about(r, 0) answers then. */
    record Target(String name, int sort, Call call) {
        /** How many terms are MADE by the first such call: part alone hands out one that is MADE already. */
        int madeAtFirst() {
            return name.equals("part") ? 0 : 1;
        }
    }

    /** Where a term is wanted: which sort it has to be (0: any), and whether -1 stands for NOTHING there. */
    record Source(String name, int sort, boolean takesNothing, Call call) {
        /** The register of Sample.fresh() that has such a term. */
        int goodRegister() {
            return sort == 0 ? Sample.SHARED : sort;
        }
    }

    private Calls() {
    }

    static List<Target> targets() {
        return List.of(
            new Target("secret", 1, (t, r) -> t.secret(r)),
            new Target("face", 2, (t, r) -> t.face(r, Sample.OTHER_SECRET)),
            new Target("shared", 3, (t, r) -> t.shared(r, Sample.SECRET, Sample.SECRET)),
            new Target("agreed", 3, (t, r) -> t.agreed(r, Sample.SECRET, Sample.PUBLIC)),
            new Target("mix", 4, (t, r) -> t.mix(r, 0, Sample.SECRET, Sample.ROW)),
            new Target("sealed", 5, (t, r) -> t.sealed(r, Sample.SECRET, Sample.ROW, Sample.MIX)),
            new Target("signed", 6, (t, r) -> t.signed(r, Sample.SECRET, Sample.ROW)),
            new Target("row", 7, (t, r) -> t.row(r, 1)),
            new Target("alter, a number", 7, (t, r) -> t.alter(r, Sample.ROW, 0, 1)),
            new Target("alter, the KIND", 7, (t, r) -> t.alter(r, Sample.ROW, 4, 1)),
            new Target("swap", 7, (t, r) -> t.swap(r, Sample.ROW, 1, Sample.MIX)),
            new Target("part", 3, (t, r) -> t.part(r, Sample.ROW, 0)));
    }

    static List<Source> sources() {
        List<Source> all = new ArrayList<>();
        int r = Sample.TARGET;
        source(all, "face x", 1, (t, x) -> t.face(r, x));
        source(all, "shared x", 1, (t, x) -> t.shared(r, x, Sample.OTHER_SECRET));
        source(all, "shared y", 1, (t, y) -> t.shared(r, Sample.OTHER_SECRET, y));
        source(all, "agreed x", 1, (t, x) -> t.agreed(r, x, Sample.PUBLIC));
        source(all, "agreed y", 2, (t, y) -> t.agreed(r, Sample.OTHER_SECRET, y));
        source(all, "mix x", 0, (t, x) -> t.mix(r, 0, x, Sample.SECRET));
        all.add(new Source("mix y", 0, true, (t, y) -> t.mix(r, 0, Sample.SECRET, y)));
        source(all, "sealed k", 0, (t, k) -> t.sealed(r, k, Sample.ROW, Sample.MIX));
        source(all, "sealed h", 0, (t, h) -> t.sealed(r, Sample.ROW, h, Sample.MIX));
        source(all, "sealed b", 0, (t, b) -> t.sealed(r, Sample.ROW, Sample.MIX, b));
        source(all, "signed x", 1, (t, x) -> t.signed(r, x, Sample.ROW));
        source(all, "signed y", 0, (t, y) -> t.signed(r, Sample.SECRET, y));
        source(all, "alter x, a number", 7, (t, x) -> t.alter(r, x, 0, 1));
        source(all, "alter x, the KIND", 7, (t, x) -> t.alter(r, x, 4, 1));
        source(all, "swap x", 7, (t, x) -> t.swap(r, x, 1, Sample.SECRET));
        all.add(new Source("swap y", 0, true, (t, y) -> t.swap(r, Sample.ROW, 1, y)));
        source(all, "part x, a term of a ROW", 7, (t, x) -> t.part(r, x, 0));
        source(all, "part x, a key", 5, (t, x) -> t.part(r, x, 4));
        source(all, "part x, a head", 5, (t, x) -> t.part(r, x, 5));
        source(all, "part x, a body", 5, (t, x) -> t.part(r, x, 6));
        source(all, "part x, an m", 6, (t, x) -> t.part(r, x, 7));
        source(all, "part x, a term of a MIX", 4, (t, x) -> t.part(r, x, 8));
        source(all, "give x", 0, (t, x) -> t.give(x));
        source(all, "derived x", 0, (t, x) -> t.derived(x));
        source(all, "same x", 0, (t, x) -> t.same(x, Sample.SHARED));
        source(all, "same y", 0, (t, y) -> t.same(Sample.SHARED, y));
        source(all, "good x", 7, (t, x) -> t.good(x));
        source(all, "about x", 0, (t, x) -> t.about(x, 0));
        return all;
    }

    private static void source(List<Source> all, String name, int sort, Call call) {
        all.add(new Source(name, sort, false, call));
    }
}
