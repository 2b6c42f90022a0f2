import java.util.function.ToIntFunction;

/** Where the document says NONE, nothing changes: neither a register nor what is MADE or DERIVED. */
public final class WrongInputTest {
    private static final Check CHECK = new Check();
    /** Neither registers nor -1; and a register that is empty. */
    private static final int[] NO_REGISTERS = {-2, 64, Integer.MIN_VALUE, Integer.MAX_VALUE};
    private static final int EMPTY = 40;
    private static final int SECRET = 1;
    private static final int PUBLIC = 2;
    private static final int ROW = 7;
    /** A register with a term: what a refused call must not write over. */
    private static final int TARGET = 9;

    public static void main(String[] args) {
        for (int r : new int[] {-1, -2, 64, Integer.MIN_VALUE, Integer.MAX_VALUE}) {
            wrongTargets(r);
        }
        for (int x : NO_REGISTERS) {
            wrongSources(x);
            refused("mix y " + x, t -> t.mix(TARGET, 0, SECRET, x));
            refused("swap y " + x, t -> t.swap(TARGET, ROW, 0, x));
        }
        wrongSources(-1);
        wrongSources(EMPTY);
        refused("mix y empty", t -> t.mix(TARGET, 0, SECRET, EMPTY));
        refused("swap y empty", t -> t.swap(TARGET, ROW, 0, EMPTY));
        for (int x = 1; x <= 7; x++) {
            wrongSorts(x);
        }
        wrongNumbers();
        CHECK.end();
    }

    /** In the registers 1 .. 7 stands the sort of that number. */
    private static TermSpread fresh() {
        TermSpread t = new TermSpread();
        t.secret(0);
        t.secret(SECRET);
        t.face(PUBLIC, SECRET);
        t.shared(3, 0, SECRET);
        t.mix(4, 6, PUBLIC, -1);
        t.sealed(5, 4, PUBLIC, 3);
        t.signed(6, SECRET, 5);
        t.row(ROW, 4);
        t.swap(ROW, ROW, 0, 3);
        t.secret(TARGET);
        t.give(PUBLIC);
        return t;
    }

    private static String stateOf(TermSpread t) {
        StringBuilder state = new StringBuilder();
        state.append(t.count(0)).append(' ').append(t.count(1));
        for (int x = 0; x < 64; x++) {
            state.append(' ').append(t.about(x, 0)).append(t.about(x, 1)).append(t.derived(x));
        }
        for (int x = 0; x < TARGET; x++) {
            for (int y = x + 1; y <= TARGET; y++) {
                state.append(' ').append(t.same(x, y));
            }
        }
        t.face(60, TARGET);
        return state.append(' ').append(t.count(0)).toString();
    }

    private static void refused(String call, ToIntFunction<TermSpread> wrong) {
        TermSpread t = fresh();
        CHECK.due(call, wrong.applyAsInt(t), -1);
        CHECK.holds("nothing changes: " + call, stateOf(t).equals(stateOf(fresh())));
    }

    private static void wrongTargets(int r) {
        refused("secret r " + r, t -> t.secret(r));
        refused("face r " + r, t -> t.face(r, 0));
        refused("shared r " + r, t -> t.shared(r, 0, 0));
        refused("agreed r " + r, t -> t.agreed(r, 0, PUBLIC));
        refused("mix r " + r, t -> t.mix(r, 0, 0, 0));
        refused("sealed r " + r, t -> t.sealed(r, 0, 0, 0));
        refused("signed r " + r, t -> t.signed(r, 0, 0));
        refused("row r " + r, t -> t.row(r, 1));
        refused("alter r " + r, t -> t.alter(r, ROW, 0, 1));
        refused("alter KIND r " + r, t -> t.alter(r, ROW, 4, 1));
        refused("swap r " + r, t -> t.swap(r, ROW, 1, 0));
        refused("part r " + r, t -> t.part(r, ROW, 0));
    }

    private static void wrongSources(int x) {
        refused("face x " + x, t -> t.face(TARGET, x));
        refused("shared x " + x, t -> t.shared(TARGET, x, 0));
        refused("shared y " + x, t -> t.shared(TARGET, 0, x));
        refused("agreed x " + x, t -> t.agreed(TARGET, x, PUBLIC));
        refused("agreed y " + x, t -> t.agreed(TARGET, 0, x));
        refused("mix x " + x, t -> t.mix(TARGET, 0, x, 0));
        refused("sealed k " + x, t -> t.sealed(TARGET, x, 0, 0));
        refused("sealed h " + x, t -> t.sealed(TARGET, 0, x, 0));
        refused("sealed b " + x, t -> t.sealed(TARGET, 0, 0, x));
        refused("signed x " + x, t -> t.signed(TARGET, x, 0));
        refused("signed y " + x, t -> t.signed(TARGET, 0, x));
        refused("alter x " + x, t -> t.alter(TARGET, x, 0, 1));
        refused("swap x " + x, t -> t.swap(TARGET, x, 0, 0));
        refused("part x " + x, t -> t.part(TARGET, x, 0));
        refused("give x " + x, t -> t.give(x));
        refused("derived x " + x, t -> t.derived(x));
        refused("same x " + x, t -> t.same(x, 0));
        refused("same y " + x, t -> t.same(0, x));
        refused("good x " + x, t -> t.good(x));
        refused("about x " + x, t -> t.about(x, 0));
    }

    private static void wrongSorts(int x) {
        if (x != SECRET) {
            refused("face of sort " + x, t -> t.face(TARGET, x));
            refused("shared of sort " + x, t -> t.shared(TARGET, x, 0));
            refused("shared with sort " + x, t -> t.shared(TARGET, 0, x));
            refused("agreed of sort " + x, t -> t.agreed(TARGET, x, PUBLIC));
            refused("signed by sort " + x, t -> t.signed(TARGET, x, 0));
        }
        if (x != PUBLIC) {
            refused("agreed with sort " + x, t -> t.agreed(TARGET, 0, x));
        }
        if (x != ROW) {
            refused("alter of sort " + x, t -> t.alter(TARGET, x, 0, 1));
            refused("alter KIND of sort " + x, t -> t.alter(TARGET, x, 4, 1));
            refused("swap of sort " + x, t -> t.swap(TARGET, x, 0, 0));
            refused("good of sort " + x, t -> t.good(x));
        }
    }

    private static void wrongNumbers() {
        for (int v : new int[] {-1, 10, Integer.MIN_VALUE, Integer.MAX_VALUE}) {
            refused("mix n " + v, t -> t.mix(TARGET, v, 0, 0));
            refused("row KIND " + v, t -> t.row(TARGET, v));
            refused("alter k " + v, t -> t.alter(TARGET, ROW, v, 1));
            refused("alter KIND " + v, t -> t.alter(TARGET, ROW, 4, v));
            refused("swap k " + v, t -> t.swap(TARGET, ROW, v, 0));
            refused("part what " + v, t -> t.part(TARGET, ROW, v));
            refused("about what " + v, t -> t.about(ROW, v));
            refused("count what " + v, t -> t.count(v));
        }
        refused("row KIND 0", t -> t.row(TARGET, 0));
        refused("row KIND 8", t -> t.row(TARGET, 8));
        refused("alter k 5", t -> t.alter(TARGET, ROW, 5, 1));
        refused("alter KIND 0", t -> t.alter(TARGET, ROW, 4, 0));
        refused("alter KIND 8", t -> t.alter(TARGET, ROW, 4, 8));
        refused("swap k 4", t -> t.swap(TARGET, ROW, 4, 0));
        refused("about what 6", t -> t.about(ROW, 6));
        refused("count what 2", t -> t.count(2));
        refused("part that is NOTHING", t -> t.part(TARGET, ROW, 1));
        refused("second one of a MIX that is NOTHING", t -> t.part(TARGET, 4, 9));
    }
}
