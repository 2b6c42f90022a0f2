/** Promises 9, 10, 11 and 16: ROWs, and when they are GOOD. */
public final class RowTest {
    private static final int LOW = Integer.MIN_VALUE;
    private static final int HIGH = Integer.MAX_VALUE;
    private static final int NOTHING = -1;
    /** The registers of fresh() and what stands in them. */
    private static final int SECRET = 0;
    private static final int PUBLIC = 1;
    private static final int OTHER_PUBLIC = 2;
    private static final int MIX = 3;

    private static final Check CHECK = new Check();

    public static void main(String[] args) {
        newRowIsEmpty();
        alterChangesOneNumber();
        alterChangesTheKind();
        swapChangesOneTerm();
        rowsMadeAlikeAreTheSame();
        numbersOfGoodRows();
        termsOfGoodRows();
        goodAsksForARow();
        CHECK.end();
    }

    private static TermSpread fresh() {
        TermSpread t = new TermSpread();
        t.secret(SECRET);
        t.face(PUBLIC, SECRET);
        t.secret(OTHER_PUBLIC);
        t.face(OTHER_PUBLIC, OTHER_PUBLIC);
        t.mix(MIX, 0, SECRET, NOTHING);
        return t;
    }

    private static void newRowIsEmpty() {
        TermSpread t = new TermSpread();
        for (int kind = 1; kind <= 7; kind++) {
            CHECK.due("row of KIND " + kind, t.row(kind, kind), 1);
            CHECK.due("row: sort", t.about(kind, 0), 7);
            CHECK.due("row: KIND", t.about(kind, 1), kind);
            for (int k = 0; k < 4; k++) {
                CHECK.due("row: number " + k, t.about(kind, 2 + k), 0);
                CHECK.due("row: term " + k, t.part(60, kind, k), -1);
            }
        }
        CHECK.due("KINDs differ", t.same(1, 2), 0);
        CHECK.due("rows: count(0)", t.count(0), 7);
        CHECK.due("row of KIND 0", t.row(8, 0), -1);
        CHECK.due("row of KIND 8", t.row(8, 8), -1);
        CHECK.due("row in register 64", t.row(64, 1), -1);
    }

    private static void alterChangesOneNumber() {
        TermSpread t = fresh();
        t.row(10, 3);
        t.swap(10, 10, 1, PUBLIC);
        int[] values = {HIGH, LOW, -1, 77};
        for (int k = 0; k < 4; k++) {
            CHECK.due("alter " + k, t.alter(11 + k, 10 + k, k, values[k]), 1);
        }
        for (int k = 0; k < 4; k++) {
            CHECK.due("altered number " + k, t.about(14, 2 + k), values[k]);
            CHECK.due("the ROW before has its own number " + k, t.about(10, 2 + k), 0);
        }
        CHECK.due("altered: KIND", t.about(14, 1), 3);
        CHECK.due("altered: term 1", t.part(20, 14, 1), 1);
        CHECK.due("altered: term 1 is the same", t.same(20, PUBLIC), 1);
        CHECK.due("alter k -1", t.alter(15, 10, -1, 1), -1);
        CHECK.due("alter k 5", t.alter(15, 10, 5, 1), -1);
        CHECK.due("alter of no ROW", t.alter(15, SECRET, 0, 1), -1);
        CHECK.due("alter of an empty register", t.alter(15, 40, 0, 1), -1);
        CHECK.due("alter into no register", t.alter(-1, 10, 0, 1), -1);
    }

    private static void alterChangesTheKind() {
        TermSpread t = fresh();
        t.row(10, 3);
        t.alter(10, 10, 2, 5);
        t.swap(10, 10, 3, MIX);
        CHECK.due("KIND 7", t.alter(11, 10, 4, 7), 1);
        CHECK.due("KIND 1", t.alter(12, 10, 4, 1), 1);
        CHECK.due("the KIND is 7", t.about(11, 1), 7);
        CHECK.due("the KIND is 1", t.about(12, 1), 1);
        CHECK.due("the numbers stay", t.about(11, 4), 5);
        CHECK.due("the terms stay", t.part(20, 11, 3), 1);
        CHECK.due("the term is the same", t.same(20, MIX), 1);
        CHECK.due("another KIND is another ROW", t.same(10, 11), 0);
        CHECK.due("KIND 0", t.alter(13, 10, 4, 0), -1);
        CHECK.due("KIND 8", t.alter(13, 10, 4, 8), -1);
    }

    private static void swapChangesOneTerm() {
        TermSpread t = fresh();
        t.row(10, 5);
        t.alter(10, 10, 0, 9);
        int[] terms = {MIX, PUBLIC, SECRET, OTHER_PUBLIC};
        for (int k = 0; k < 4; k++) {
            CHECK.due("swap " + k, t.swap(11 + k, 10 + k, k, terms[k]), 1);
        }
        for (int k = 0; k < 4; k++) {
            CHECK.due("term " + k, t.part(20, 14, k), 1);
            CHECK.due("term " + k + " is the same", t.same(20, terms[k]), 1);
            CHECK.due("the ROW before has no term " + k, t.part(20, 10, k), -1);
        }
        CHECK.due("swapped: number", t.about(14, 2), 9);
        CHECK.due("swapped: KIND", t.about(14, 1), 5);
        CHECK.due("swap to NOTHING", t.swap(15, 11, 0, NOTHING), 1);
        CHECK.due("as it was before", t.same(15, 10), 1);
        CHECK.due("a ROW in a ROW", t.swap(15, 10, 0, 10), 1);
        CHECK.due("the ROW within", t.part(16, 15, 0), 1);
        CHECK.due("it is that ROW", t.same(16, 10), 1);
        CHECK.due("swap k -1", t.swap(17, 10, -1, PUBLIC), -1);
        CHECK.due("swap k 4", t.swap(17, 10, 4, PUBLIC), -1);
        CHECK.due("swap y -2", t.swap(17, 10, 0, -2), -1);
        CHECK.due("swap y 64", t.swap(17, 10, 0, 64), -1);
        CHECK.due("swap y empty", t.swap(17, 10, 0, 50), -1);
        CHECK.due("swap of no ROW", t.swap(17, PUBLIC, 0, MIX), -1);
    }

    private static void rowsMadeAlikeAreTheSame() {
        TermSpread t = fresh();
        t.row(10, 1);
        t.alter(10, 10, 0, 1);
        t.swap(10, 10, 0, PUBLIC);
        t.row(11, 2);
        t.swap(11, 11, 0, PUBLIC);
        t.alter(11, 11, 0, 1);
        t.alter(11, 11, 4, 1);
        CHECK.due("made in another order", t.same(10, 11), 1);
        int made = t.count(0);
        CHECK.due("altered to what it is", t.alter(12, 10, 0, 1), 1);
        CHECK.due("swapped to what it is", t.swap(13, 10, 0, PUBLIC), 1);
        CHECK.due("altered is the same", t.same(10, 12), 1);
        CHECK.due("swapped is the same", t.same(10, 13), 1);
        CHECK.due("nothing is MADE twice", t.count(0), made);
        t.alter(14, 10, 3, 1);
        CHECK.due("one more number", t.same(10, 14), 0);
        t.swap(14, 10, 3, PUBLIC);
        CHECK.due("one more term", t.same(10, 14), 0);
    }

    private static int goodness(int kind, int[] numbers, int[] terms) {
        TermSpread t = fresh();
        t.row(10, kind);
        for (int k = 0; k < 4; k++) {
            t.alter(10, 10, k, numbers[k]);
            t.swap(10, 10, k, terms[k]);
        }
        return t.good(10);
    }

    private static int[] four(int a, int b, int c, int d) {
        return new int[] {a, b, c, d};
    }

    private static final int[][] GOOD_TERMS = {
        null,
        {PUBLIC, NOTHING, NOTHING, NOTHING},
        {PUBLIC, NOTHING, NOTHING, NOTHING},
        {PUBLIC, OTHER_PUBLIC, NOTHING, NOTHING},
        {MIX, NOTHING, NOTHING, NOTHING},
        {MIX, PUBLIC, NOTHING, NOTHING},
        {NOTHING, NOTHING, NOTHING, NOTHING},
        {NOTHING, NOTHING, NOTHING, NOTHING}
    };
    private static final int[][] LEAST = {
        null, {0, LOW, 0, 0}, {0, LOW, 0, 0}, {0, 0, 0, 0}, {0, 0, 0, 0}, {0, 1, 0, 0}, {0, 1, 0, 0}, {0, 0, 1, 0}
    };
    private static final int[][] MOST = {
        null, {5, HIGH, 0, 0}, {5, HIGH, 0, 0}, {5, 5, 9999, 9999}, {0, 0, 0, 0}, {3, HIGH, 9999, 0},
        {3, HIGH, 63, 0}, {3, 5, HIGH, 9999}
    };

    private static void numbersOfGoodRows() {
        for (int kind = 1; kind <= 7; kind++) {
            CHECK.due("least of KIND " + kind, goodness(kind, LEAST[kind], GOOD_TERMS[kind]), 1);
            CHECK.due("most of KIND " + kind, goodness(kind, MOST[kind], GOOD_TERMS[kind]), 1);
            for (int k = 0; k < 4; k++) {
                goodWithNumber(kind, k, 0);
                goodWithNumber(kind, k, LOW);
                goodWithNumber(kind, k, HIGH);
                goodWithNumber(kind, k, -1);
                goodWithNumber(kind, k, 1);
                goodWithNumber(kind, k, LEAST[kind][k] - 1);
                goodWithNumber(kind, k, MOST[kind][k] + 1);
            }
        }
    }

    private static void goodWithNumber(int kind, int k, int v) {
        int[] numbers = LEAST[kind].clone();
        numbers[k] = v;
        int want = v >= LEAST[kind][k] && v <= MOST[kind][k] ? 1 : 0;
        CHECK.due("KIND " + kind + ", number " + k + " " + v, goodness(kind, numbers, GOOD_TERMS[kind]), want);
    }

    private static void termsOfGoodRows() {
        int[] choices = {NOTHING, PUBLIC, OTHER_PUBLIC, SECRET, MIX};
        for (int kind = 1; kind <= 7; kind++) {
            for (int i = 0; i < 625; i++) {
                int[] terms = four(choices[i % 5], choices[i / 5 % 5], choices[i / 25 % 5], choices[i / 125]);
                CHECK.due("KIND " + kind + " with " + java.util.Arrays.toString(terms),
                    goodness(kind, LEAST[kind], terms), areGoodTerms(kind, terms) ? 1 : 0);
            }
        }
    }

    private static boolean areGoodTerms(int kind, int[] terms) {
        boolean first = isPublic(terms[0]);
        boolean second = isPublic(terms[1]);
        boolean noneFromSecond = terms[1] == NOTHING && terms[2] == NOTHING && terms[3] == NOTHING;
        return switch (kind) {
            case 1, 2 -> first && noneFromSecond;
            case 3 -> first && second
                && (terms[2] == NOTHING ? terms[3] == NOTHING
                    : isPublic(terms[2]) && (terms[3] == NOTHING || isPublic(terms[3])));
            case 4 -> terms[0] != NOTHING && noneFromSecond;
            case 5 -> terms[0] != NOTHING && second && terms[2] == NOTHING && terms[3] == NOTHING;
            default -> terms[0] == NOTHING && noneFromSecond;
        };
    }

    private static boolean isPublic(int term) {
        return term == PUBLIC || term == OTHER_PUBLIC;
    }

    private static void goodAsksForARow() {
        TermSpread t = fresh();
        CHECK.due("good of a SECRET", t.good(SECRET), -1);
        CHECK.due("good of a PUBLIC", t.good(PUBLIC), -1);
        CHECK.due("good of a MIX", t.good(MIX), -1);
        CHECK.due("good of an empty register", t.good(40), -1);
        CHECK.due("good(-1)", t.good(-1), -1);
        CHECK.due("good(64)", t.good(64), -1);
    }
}
