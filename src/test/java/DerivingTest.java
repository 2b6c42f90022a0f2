/** Promises 13, 14 and 18: what is DERIVED, rule by rule, and how it is counted. */
public final class DerivingTest {
    private static final Check CHECK = new Check();

    public static void main(String[] args) {
        givenTwiceCountsOnce();
        rowGivesItsTerms();
        rowOfNothingIsDerivedAsItIsMade();
        sealedGivesItsHeadAlone();
        sealedGivesItsBodyWithItsKey();
        signedGivesItsText();
        mixGivesNothing();
        publicGivesNoSecret();
        publicIsMade();
        sharedIsMade();
        sharedWithAPublicThatIsNotMade();
        sharedWithOneself();
        wholesAreMade();
        laterTermsAreDerivedAsTheyAreMade();
        termsInNoRegisterCount();
        orderOfGivingIsFree();
        wrongInputs();
        CHECK.end();
    }

    private static TermSpread withSecrets(int n) {
        TermSpread t = new TermSpread();
        for (int i = 0; i < n; i++) {
            t.secret(i);
        }
        return t;
    }

    private static void counts(TermSpread t, String when, int made, int derived) {
        CHECK.due(when + ": count(0)", t.count(0), made);
        CHECK.due(when + ": count(1)", t.count(1), derived);
    }

    private static void givenTwiceCountsOnce() {
        TermSpread t = withSecrets(2);
        CHECK.due("derived before", t.derived(0), 0);
        CHECK.due("give(0)", t.give(0), 1);
        CHECK.due("derived after", t.derived(0), 1);
        CHECK.due("give(0) again", t.give(0), 0);
        CHECK.due("the other one", t.derived(1), 0);
        counts(t, "one of two", 2, 1);
    }

    private static void rowGivesItsTerms() {
        TermSpread t = withSecrets(4);
        t.row(10, 2);
        for (int k = 0; k < 4; k++) {
            t.swap(10, 10, k, k);
        }
        CHECK.due("give a ROW: itself, its terms, and the three ROWs on the way", t.give(10), 8);
        for (int k = 0; k < 4; k++) {
            CHECK.due("term " + k + " of the ROW", t.derived(k), 1);
        }
    }

    private static void rowOfNothingIsDerivedAsItIsMade() {
        TermSpread t = withSecrets(1);
        t.row(1, 6);
        CHECK.due("a ROW of NOTHING", t.derived(1), 1);
        t.alter(2, 1, 3, -9);
        CHECK.due("altered", t.derived(2), 1);
        t.alter(2, 2, 4, 1);
        CHECK.due("of another KIND", t.derived(2), 1);
        t.swap(3, 1, 3, 1);
        CHECK.due("of a ROW of NOTHING", t.derived(3), 1);
        t.swap(4, 1, 3, 0);
        CHECK.due("of a SECRET", t.derived(4), 0);
        counts(t, "rows", 6, 4);
        CHECK.due("give what is DERIVED already", t.give(1), 0);
    }

    private static void sealedGivesItsHeadAlone() {
        TermSpread t = withSecrets(3);
        t.sealed(3, 0, 1, 2);
        CHECK.due("give SEALED", t.give(3), 2);
        CHECK.due("the key", t.derived(0), 0);
        CHECK.due("the head", t.derived(1), 1);
        CHECK.due("the body", t.derived(2), 0);
    }

    private static void sealedGivesItsBodyWithItsKey() {
        TermSpread t = withSecrets(3);
        t.sealed(3, 0, 1, 2);
        t.give(3);
        CHECK.due("the key after the SEALED", t.give(0), 2);
        CHECK.due("the body", t.derived(2), 1);
        TermSpread u = withSecrets(3);
        u.sealed(3, 0, 1, 2);
        CHECK.due("the key before the SEALED", u.give(0), 1);
        CHECK.due("the SEALED", u.give(3), 3);
        TermSpread v = withSecrets(3);
        v.mix(4, 1, 0, 1);
        v.sealed(3, 4, 1, 2);
        v.give(3);
        CHECK.due("the key can be made, with the head", v.give(0), 3);
        CHECK.due("the body by a key that was made", v.derived(2), 1);
    }

    private static void signedGivesItsText() {
        TermSpread t = withSecrets(2);
        t.signed(2, 0, 1);
        CHECK.due("give SIGNED", t.give(2), 2);
        CHECK.due("its m", t.derived(1), 1);
        CHECK.due("its SECRET", t.derived(0), 0);
    }

    private static void mixGivesNothing() {
        TermSpread t = withSecrets(2);
        t.mix(2, 4, 0, 1);
        CHECK.due("give MIX", t.give(2), 1);
        CHECK.due("its first", t.derived(0), 0);
        CHECK.due("its second", t.derived(1), 0);
    }

    private static void publicGivesNoSecret() {
        TermSpread t = withSecrets(2);
        t.face(2, 0);
        t.shared(3, 0, 1);
        CHECK.due("give PUBLIC", t.give(2), 1);
        CHECK.due("give SHARED", t.give(3), 1);
        CHECK.due("the SECRET", t.derived(0), 0);
        CHECK.due("the other SECRET", t.derived(1), 0);
    }

    private static void publicIsMade() {
        TermSpread t = withSecrets(1);
        t.face(1, 0);
        CHECK.due("give the SECRET", t.give(0), 2);
        CHECK.due("its PUBLIC", t.derived(1), 1);
        t.secret(2);
        t.give(2);
        t.face(3, 2);
        CHECK.due("a PUBLIC that is MADE later", t.derived(3), 1);
    }

    private static void sharedIsMade() {
        for (int owner = 0; owner < 2; owner++) {
            TermSpread t = withSecrets(2);
            t.shared(2, 0, 1);
            CHECK.due("one SECRET", t.give(owner), 1);
            CHECK.due("not without the other's PUBLIC", t.derived(2), 0);
            t.face(3, 1 - owner);
            CHECK.due("a MADE PUBLIC is not DERIVED by that", t.derived(2), 0);
            CHECK.due("the other's PUBLIC", t.give(3), 2);
            CHECK.due("SHARED", t.derived(2), 1);
        }
        TermSpread u = withSecrets(2);
        u.shared(2, 0, 1);
        u.face(3, 0);
        u.face(4, 1);
        u.give(3);
        u.give(4);
        CHECK.due("of two PUBLIC alone", u.derived(2), 0);
        TermSpread v = withSecrets(2);
        v.face(4, 1);
        v.give(0);
        v.give(4);
        v.shared(2, 0, 1);
        CHECK.due("SHARED as it is MADE", v.derived(2), 1);
    }

    private static void sharedWithAPublicThatIsNotMade() {
        TermSpread t = withSecrets(2);
        t.shared(2, 0, 1);
        t.give(0);
        CHECK.due("the second SECRET, no PUBLIC MADE", t.give(1), 2);
        CHECK.due("SHARED of two SECRETS", t.derived(2), 1);
        TermSpread u = withSecrets(2);
        u.give(0);
        u.give(1);
        u.shared(2, 0, 1);
        CHECK.due("SHARED MADE last, no PUBLIC MADE", u.derived(2), 1);
        counts(u, "no PUBLIC is MADE", 3, 3);
    }

    private static void sharedWithOneself() {
        TermSpread t = withSecrets(1);
        t.face(1, 0);
        t.agreed(2, 0, 1);
        t.give(1);
        CHECK.due("by the PUBLIC alone", t.derived(2), 0);
        CHECK.due("by the SECRET", t.give(0), 2);
        TermSpread u = withSecrets(1);
        u.shared(2, 0, 0);
        CHECK.due("by the SECRET alone", u.give(0), 2);
    }

    private static void wholesAreMade() {
        TermSpread t = withSecrets(3);
        t.mix(3, 0, 0, 1);
        t.mix(4, 0, 0, -1);
        t.sealed(5, 0, 1, 2);
        t.signed(6, 0, 1);
        t.row(7, 1);
        t.swap(7, 7, 3, 2);
        CHECK.due("the first SECRET: MIX of it alone", t.give(0), 2);
        CHECK.due("the second SECRET: MIX and SIGNED", t.give(1), 3);
        CHECK.due("SEALED wants its body", t.derived(5), 0);
        CHECK.due("the third SECRET: SEALED and ROW", t.give(2), 3);
        counts(t, "all", 9, 9);
        TermSpread u = withSecrets(2);
        u.signed(2, 0, 1);
        CHECK.due("SIGNED wants its SECRET", u.give(1), 1);
        u.sealed(3, 0, 1, 1);
        CHECK.due("SEALED wants its key", u.derived(3), 0);
    }

    private static void laterTermsAreDerivedAsTheyAreMade() {
        TermSpread t = withSecrets(2);
        t.give(0);
        t.mix(2, 5, 0, -1);
        CHECK.due("MIX", t.derived(2), 1);
        t.sealed(3, 0, 2, 2);
        CHECK.due("SEALED", t.derived(3), 1);
        t.signed(4, 0, 3);
        CHECK.due("SIGNED", t.derived(4), 1);
        t.mix(5, 5, 4, 1);
        CHECK.due("MIX with what is not DERIVED", t.derived(5), 0);
        counts(t, "later", 6, 4);
        t.mix(6, 5, 0, -1);
        counts(t, "made again", 6, 4);
    }

    private static void termsInNoRegisterCount() {
        TermSpread t = withSecrets(2);
        t.sealed(0, 1, 0, 0);
        t.mix(2, 1, 0, -1);
        t.secret(2);
        CHECK.due("SEALED, its head, and the SECRET that stood in 0", t.give(0), 3);
        CHECK.due("the key", t.give(1), 1);
        t.sealed(2, 0, 0, 0);
        t.row(2, 1);
        counts(t, "lost ones", 7, 6);
        CHECK.due("the body, from the SEALED", t.part(3, 0, 6), 1);
        CHECK.due("is DERIVED", t.derived(3), 1);
    }

    /** A chain: each box has the key of the next one; whatever the order, all comes out in the end. */
    private static void orderOfGivingIsFree() {
        int[][] orders = {{0, 20, 21, 22}, {22, 21, 20, 0}, {21, 0, 22, 20}, {20, 22, 0, 21}};
        for (int[] order : orders) {
            TermSpread t = withSecrets(4);
            t.row(10, 4);
            for (int i = 0; i < 3; i++) {
                t.mix(11, i, i, -1);
                t.sealed(20 + i, 11, 10, i + 1);
            }
            int sum = 0;
            for (int x : order) {
                sum += t.give(x);
            }
            CHECK.due("all come to be DERIVED", sum, 10);
            counts(t, "chain", 11, 11);
        }
    }

    private static void wrongInputs() {
        TermSpread t = withSecrets(1);
        for (int x : new int[] {-1, 1, 63, 64, Integer.MIN_VALUE, Integer.MAX_VALUE}) {
            CHECK.due("give(" + x + ")", t.give(x), -1);
            CHECK.due("derived(" + x + ")", t.derived(x), -1);
        }
        for (int what : new int[] {-1, 2, Integer.MIN_VALUE, Integer.MAX_VALUE}) {
            CHECK.due("count(" + what + ")", t.count(what), -1);
        }
        counts(t, "wrong inputs", 1, 0);
    }
}
