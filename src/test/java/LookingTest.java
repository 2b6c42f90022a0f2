/** Promises 12, 15 and 17: parts of terms, whether two are the same, and what a term is. */
public final class LookingTest {
    private static final Check CHECK = new Check();
    /** In the registers 1 .. 7 of fresh() stands the sort of that number; in 0 and 8 more SECRETS. */
    private static final int ROW = 7;

    public static void main(String[] args) {
        partsOfEverySort();
        partOfNothing();
        partMakesNoTerm();
        sameOfEverySort();
        aboutEverySort();
        CHECK.end();
    }

    private static TermSpread fresh() {
        TermSpread t = new TermSpread();
        t.secret(0);
        t.secret(1);
        t.secret(8);
        t.face(2, 1);
        t.shared(3, 0, 1);
        t.mix(4, 6, 2, 3);
        t.sealed(5, 4, 2, 3);
        t.signed(6, 1, 5);
        t.row(ROW, 4);
        for (int k = 0; k < 4; k++) {
            t.swap(ROW, ROW, k, 3 + k);
            t.alter(ROW, ROW, k, 10 * k - 5);
        }
        return t;
    }

    /** For each "what": the register with such a part, and the register with the term that is due. */
    private static final int[] WHOLE = {7, 7, 7, 7, 5, 5, 5, 6, 4, 4};
    private static final int[] PART = {3, 4, 5, 6, 4, 2, 3, 5, 2, 3};

    private static void partsOfEverySort() {
        for (int what = 0; what < 10; what++) {
            for (int x = 1; x <= 7; x++) {
                TermSpread t = fresh();
                int want = WHOLE[what] == x ? 1 : -1;
                CHECK.due("part(20, " + x + ", " + what + ")", t.part(20, x, what), want);
                CHECK.due("the part is the same", t.same(20, PART[what]), want);
            }
        }
        TermSpread t = fresh();
        CHECK.due("part -1", t.part(20, ROW, -1), -1);
        CHECK.due("part 10", t.part(20, ROW, 10), -1);
        CHECK.due("part of an empty register", t.part(20, 30, 0), -1);
        CHECK.due("part of no register", t.part(20, 64, 0), -1);
        CHECK.due("part into no register", t.part(64, ROW, 0), -1);
        CHECK.due("part over its whole", t.part(ROW, ROW, 0), 1);
        CHECK.due("the part stands there", t.same(ROW, 3), 1);
    }

    private static void partOfNothing() {
        TermSpread t = fresh();
        t.row(10, 1);
        t.mix(11, 1, 1, -1);
        t.secret(20);
        CHECK.due("NOTHING in a ROW", t.part(20, 10, 2), -1);
        CHECK.due("NOTHING in a MIX", t.part(20, 11, 9), -1);
        CHECK.due("the register keeps its term", t.about(20, 0), 1);
        CHECK.due("the first one of that MIX", t.part(20, 11, 8), 1);
        CHECK.due("it is the SECRET", t.same(20, 1), 1);
    }

    private static void partMakesNoTerm() {
        TermSpread t = fresh();
        int made = t.count(0);
        t.part(20, 5, 6);
        CHECK.due("part: count(0)", t.count(0), made);
        CHECK.due("part: count(1)", t.count(1), 1);
    }

    private static void sameOfEverySort() {
        TermSpread t = fresh();
        for (int x = 0; x <= 8; x++) {
            for (int y = 0; y <= 8; y++) {
                CHECK.due("same(" + x + ", " + y + ")", t.same(x, y), x == y ? 1 : 0);
            }
        }
        CHECK.due("same(30, 30), empty", t.same(30, 30), -1);
        CHECK.due("same(0, 30)", t.same(0, 30), -1);
        CHECK.due("same(30, 0)", t.same(30, 0), -1);
        CHECK.due("same(0, -1)", t.same(0, -1), -1);
        CHECK.due("same(64, 0)", t.same(64, 0), -1);
    }

    private static void aboutEverySort() {
        TermSpread t = fresh();
        for (int x = 1; x <= 7; x++) {
            CHECK.due("about(" + x + ", 0)", t.about(x, 0), x);
            CHECK.due("about(" + x + ", 1)", t.about(x, 1), x == 4 ? 6 : x == ROW ? 4 : 0);
            for (int k = 0; k < 4; k++) {
                CHECK.due("about(" + x + ", " + (2 + k) + ")", t.about(x, 2 + k), x == ROW ? 10 * k - 5 : 0);
            }
        }
        for (int what : new int[] {-1, 6, Integer.MIN_VALUE, Integer.MIN_VALUE + 1, Integer.MAX_VALUE}) {
            CHECK.due("about what " + what, t.about(ROW, what), -1);
        }
        CHECK.due("about an empty register", t.about(30, 0), -1);
        CHECK.due("about(64, 0)", t.about(64, 0), -1);
        CHECK.due("about(-1, 0)", t.about(-1, 0), -1);
    }
}
