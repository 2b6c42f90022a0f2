import java.util.Random;

/** Runs of 512 calls with the most terms and the longest chains; and calls after these, which must end, too. */
public final class LimitTest {
    private static final Check CHECK = new Check();

    public static void main(String[] args) {
        allCallsMakeTerms();
        longChainOfWholes();
        longChainOfParts();
        boxesThatOpenOneAnother();
        laterCallsEnd();
        CHECK.end();
    }

    private static void allCallsMakeTerms() {
        TermSpread t = new TermSpread();
        for (int i = 0; i < 511; i++) {
            CHECK.due("secret " + i, t.secret(i % 64), 1);
        }
        CHECK.due("count(0)", t.count(0), 511);
        TermSpread u = new TermSpread();
        for (int i = 0; i < 512; i++) {
            CHECK.due("term " + i, i == 0 ? u.row(0, 1) : u.alter(i % 64, (i - 1) % 64, 0, i), 1);
        }
        CHECK.due("count(0) after 512 terms", u.count(0), 512);
        CHECK.due("count(1) after 512 ROWs of NOTHING", u.count(1), 512);
    }

    private static void longChainOfWholes() {
        TermSpread t = new TermSpread();
        t.secret(0);
        t.mix(1, 1, 0, 0);
        for (int i = 0; i < 508; i++) {
            CHECK.due("mix " + i, t.mix(1, 1, 1, 1), 1);
        }
        CHECK.due("give the SECRET", t.give(0), 510);
        CHECK.due("the last MIX", t.derived(1), 1);
    }

    private static void longChainOfParts() {
        TermSpread t = new TermSpread();
        t.secret(0);
        t.signed(1, 0, 0);
        for (int i = 0; i < 508; i++) {
            CHECK.due("signed " + i, t.signed(1, 0, 1), 1);
        }
        CHECK.due("give the last SIGNED", t.give(1), 510);
        CHECK.due("the SECRET", t.derived(0), 1);
    }

    /** Each box has the SECRET whose MIX opens the next one: taking apart and making wait for each other. */
    private static void boxesThatOpenOneAnother() {
        TermSpread t = new TermSpread();
        t.row(10, 1);
        t.secret(0);
        t.mix(5, 0, 0, -1);
        for (int i = 0; i < 120; i++) {
            t.secret(1);
            t.sealed(2, 5, 10, 1);
            t.mix(5, 0, 1, -1);
            CHECK.due("give box " + i, t.give(2), 1);
        }
        CHECK.due("the last SECRET before", t.derived(1), 0);
        CHECK.due("give the first SECRET: the SECRETS and their MIX", t.give(0), 242);
        CHECK.due("the last SECRET", t.derived(1), 1);
        CHECK.due("count(0)", t.count(0), 363);
        CHECK.due("count(1)", t.count(1), 363);
    }

    private static void laterCallsEnd() {
        Random random = new Random(7);
        for (int run = 0; run < 20; run++) {
            TermSpread t = new TermSpread();
            for (int i = 0; i < 3000; i++) {
                int[] a = new int[4];
                for (int k = 0; k < 4; k++) {
                    a[k] = random.nextInt(8) == 0 ? random.nextInt() : random.nextInt(13) - 1;
                }
                askAll(t, a[0], a[1], a[2], a[3]);
            }
        }
        CHECK.holds("all later calls ended", true);
    }

    private static void askAll(TermSpread t, int a, int b, int c, int d) {
        t.secret(a);
        t.face(a, b);
        t.shared(b, c, d);
        t.agreed(c, b, a);
        t.mix(d, c, b, a);
        t.sealed(a, b, c, d);
        t.signed(b, a, c);
        t.row(c, d);
        t.alter(a, c, b, d);
        t.swap(a, c, b, d);
        t.part(d, a, b);
        t.give(d);
        t.derived(a);
        t.same(a, b);
        t.good(c);
        t.about(a, b);
        t.count(a);
    }
}
