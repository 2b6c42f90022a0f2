import java.util.Arrays;
import java.util.List;

/** The document's paragraph on GOOD: for each KIND every bound that it tells. */
public final class BoundsOfGoodTest {
    private static final Check CHECK = new Check();
    private static final int LOW = Sample.LOW;
    private static final int HIGH = Sample.HIGH;
    /** What a term is called in the tests: the sort in the register of that number; '-' is NOTHING. */
    private static final String SORTS = "?SPHMBGR";

    public static void main(String[] args) {
        CHECK.sentence("1, 2: a device (0 .. 5), a number; a PUBLIC.");
        for (int kind = 1; kind <= 2; kind++) {
            numbers(kind, "P---", new int[] {0, LOW, 0, 0}, new int[] {5, HIGH, 0, 0});
            terms(kind, "0,0,0,0", "P---");
        }
        CHECK.sentence("3: two devices, two numbers 0 .. 9,999; two PUBLIC, then two that are PUBLIC or NOTHING");
        numbers(3, "PP--", new int[] {0, 0, 0, 0}, new int[] {5, 5, 9999, 9999});
        numbers(3, "PPPP", new int[] {0, 0, 0, 0}, new int[] {5, 5, 9999, 9999});
        CHECK.sentence("(the second one NOTHING where the first one is)");
        terms(3, "1,2,3,4", "PP--", "PPP-", "PPPP");
        CHECK.sentence("4: no number; a term.");
        numbers(4, "M---", new int[] {0, 0, 0, 0}, new int[] {0, 0, 0, 0});
        terms(4, "0,0,0,0", "S---", "P---", "H---", "M---", "B---", "G---", "R---");
        CHECK.sentence("5: a group (0 .. 3), a number of 1 and more, one of 0 .. 9,999; a term, a PUBLIC.");
        numbers(5, "MP--", new int[] {0, 1, 0, 0}, new int[] {3, HIGH, 9999, 0});
        terms(5, "0,1,0,0", "SP--", "PP--", "HP--", "MP--", "BP--", "GP--", "RP--");
        CHECK.sentence("6: a group, a number of 1 and more, one of 0 .. 63.");
        numbers(6, "----", new int[] {0, 1, 0, 0}, new int[] {3, HIGH, 63, 0});
        terms(6, "0,1,0,0", "----");
        CHECK.sentence("7: a group, a device, a number of 1 and more, one of 0 .. 9,999.");
        numbers(7, "----", new int[] {0, 0, 1, 0}, new int[] {3, 5, HIGH, 9999});
        terms(7, "0,0,1,0", "----");

        CHECK.sentence("A ROW is GOOD, for its KIND");
        goodForItsKindAlone();
        CHECK.sentence("if it has what is told here, and otherwise 0 and NOTHING");
        newRowsAreNotGood();
        CHECK.sentence("a PUBLIC");
        publicTermsMayBeOneOrDiffer();
        goodIsNoMatterOfDeriving();
        CHECK.end();
    }

    private static TermSpread rowOf(int kind, int[] numbers, String terms) {
        TermSpread t = Sample.fresh();
        t.row(30, kind);
        for (int k = 0; k < 4; k++) {
            t.alter(30, 30, k, numbers[k]);
            char sort = terms.charAt(k);
            t.swap(30, 30, k, sort == '-' ? -1 : SORTS.indexOf(sort));
        }
        return t;
    }

    private static void good(int kind, int[] numbers, String terms, boolean want) {
        String row = "KIND " + kind + " " + Arrays.toString(numbers) + " " + terms;
        CHECK.due(row, rowOf(kind, numbers, terms).good(30), want ? 1 : 0);
    }

    /** All numbers least and all most are GOOD; each one alone just beyond its bounds, or far, is not. */
    private static void numbers(int kind, String terms, int[] least, int[] most) {
        good(kind, least, terms, true);
        good(kind, most, terms, true);
        for (int k = 0; k < 4; k++) {
            int[] row = least.clone();
            for (int v : new int[] {most[k], least[k] / 2 + most[k] / 2}) {
                row[k] = Math.max(v, least[k]);
                good(kind, row, terms, true);
            }
            for (int v : Sample.outside(least[k], most[k])) {
                row[k] = v;
                good(kind, row, terms, false);
            }
        }
    }

    /** Of all choices of terms, these and no others are GOOD with such numbers. */
    private static void terms(int kind, String numbers, String... goodOnes) {
        String choices = "-SPHMBGR";
        int[] row = Arrays.stream(numbers.split(",")).mapToInt(Integer::parseInt).toArray();
        for (int i = 0; i < 8 * 8 * 8 * 8; i++) {
            StringBuilder terms = new StringBuilder();
            for (int left = i, k = 0; k < 4; k++, left /= 8) {
                terms.append(choices.charAt(left % 8));
            }
            good(kind, row, terms.toString(), List.of(goodOnes).contains(terms.toString()));
        }
    }

    private static void goodForItsKindAlone() {
        int[][] numbers = {{5, -1, 0, 0}, {5, -1, 0, 0}, {5, 5, 9999, 9999}, {0, 0, 0, 0}, {3, 7, 9999, 0},
            {3, 7, 63, 0}, {3, 5, 7, 9999}};
        String[] terms = {"P---", "P---", "PPPP", "R---", "RP--", "----", "----"};
        String[] goodKinds = {"12", "12", "3", "4", "5", "6", "7"};
        for (int i = 0; i < 7; i++) {
            for (int kind = 1; kind <= 7; kind++) {
                TermSpread t = rowOf(i + 1, numbers[i], terms[i]);
                t.alter(31, 30, 4, kind);
                CHECK.due("what is GOOD for KIND " + (i + 1) + " as KIND " + kind, t.good(31),
                    goodKinds[i].indexOf('0' + kind) >= 0 ? 1 : 0);
                CHECK.due("the ROW before stays GOOD", t.good(30), 1);
            }
        }
    }

    private static void newRowsAreNotGood() {
        TermSpread t = new TermSpread();
        for (int kind = 1; kind <= 7; kind++) {
            t.row(0, kind);
            CHECK.due("a new ROW of KIND " + kind, t.good(0), 0);
        }
        t.row(1, 6);
        t.alter(2, 1, 1, 1);
        CHECK.due("KIND 6 with its number of 1", t.good(2), 1);
        t.alter(2, 2, 3, 1);
        CHECK.due("KIND 6 with a fourth number", t.good(2), 0);
        t.alter(2, 2, 3, 0);
        CHECK.due("KIND 6 without it again", t.good(2), 1);
        t.swap(2, 2, 3, 1);
        CHECK.due("KIND 6 with a fourth term", t.good(2), 0);
        t.swap(2, 2, 3, -1);
        CHECK.due("KIND 6 without it again", t.good(2), 1);
    }

    private static void publicTermsMayBeOneOrDiffer() {
        for (int differing = 0; differing < 4; differing++) {
            TermSpread t = Sample.fresh();
            t.face(31, Sample.OTHER_SECRET);
            t.row(30, 3);
            for (int k = 0; k < 4; k++) {
                t.swap(30, 30, k, k < differing ? 31 : Sample.PUBLIC);
            }
            CHECK.due("four PUBLIC, the first " + differing + " of another SECRET", t.good(30), 1);
        }
    }

    private static void goodIsNoMatterOfDeriving() {
        TermSpread t = Sample.withSecrets(1);
        t.face(1, 0);
        t.row(2, 1);
        t.swap(2, 2, 0, 1);
        CHECK.due("GOOD, not DERIVED", t.good(2) - t.derived(2), 1);
        t.give(1);
        CHECK.due("GOOD and DERIVED", t.good(2) + t.derived(2), 2);
    }
}
