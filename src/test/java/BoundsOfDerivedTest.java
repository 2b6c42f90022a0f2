/** The document's paragraph on DERIVED: each rule with its bounds, and what no rule gives. */
public final class BoundsOfDerivedTest {
    private static final Check CHECK = new Check();

    public static void main(String[] args) {
        CHECK.sentence("DERIVED is the least set of terms");
        nothingIsDerivedOfNothing();
        boxesWithEachOthersKeysStayShut();
        aBoxWithItsOwnKeyStaysShut();
        noRuleTakesApartWhatHidesItsTerms();
        CHECK.sentence("all that was GIVEN");
        everySortMayBeGiven();
        givenThoughLost();
        CHECK.sentence("of a ROW that is in it its terms");
        everyPlaceOfARow();
        rowsWithinRows();
        CHECK.sentence("of a SEALED its head");
        headWithoutTheKey();
        CHECK.sentence("and if its key is in it its body");
        bodyWithTheKey();
        keyThatIsTheHead();
        keyThatCanBeMade();
        keyThatComesInManySteps();
        CHECK.sentence("of a SIGNED its m");
        signedTellsItsText();
        CHECK.sentence("what can be made of those in it: PUBLIC(s)");
        publicOfASecret();
        CHECK.sentence("SHARED(s, t), if s and PUBLIC(t) are in it, or t and PUBLIC(s)");
        sharedByEitherOne();
        sharedByAPublicThatComesOutOfATerm();
        sharedByNeither();
        sharedOfOneSecret();
        CHECK.sentence("(MADE or not)");
        sharedWhereNoPublicIsMade();
        CHECK.sentence("MIX; SEALED; SIGNED; ROW");
        wholesWantAllTheirTerms();
        CHECK.sentence("(NOTHING counts as in it)");
        nothingCountsAsInIt();
        CHECK.sentence("So a ROW of NOTHING alone is DERIVED as it is MADE.");
        rowOfNothingAlone();
        CHECK.end();
    }

    private static void derived(TermSpread t, String when, String want) {
        StringBuilder got = new StringBuilder();
        for (int x = 0; x < want.length(); x++) {
            got.append(t.derived(x));
        }
        CHECK.holds(when + ": the registers from 0 on are DERIVED as in " + want + ", not " + got,
            got.toString().equals(want));
    }

    private static void nothingIsDerivedOfNothing() {
        TermSpread t = Sample.withSecrets(2);
        t.face(2, 0);
        t.shared(3, 0, 1);
        t.mix(4, 0, 0, -1);
        t.sealed(5, 0, 1, 2);
        t.signed(6, 0, 1);
        t.row(7, 1);
        t.swap(7, 7, 0, 0);
        derived(t, "nothing is GIVEN", "00000000");
        CHECK.due("but the ROW of NOTHING", t.count(1), 1);
    }

    private static void boxesWithEachOthersKeysStayShut() {
        TermSpread t = Sample.withSecrets(3);
        t.row(3, 1);
        t.sealed(4, 0, 3, 1);
        t.sealed(5, 1, 3, 2);
        t.sealed(6, 2, 3, 0);
        for (int box = 4; box <= 6; box++) {
            CHECK.due("give box " + box, t.give(box), 1);
        }
        derived(t, "three boxes in a ring", "0001111");
        CHECK.due("one key opens all", t.give(1), 3);
        derived(t, "the ring is open", "1111111");
    }

    private static void aBoxWithItsOwnKeyStaysShut() {
        TermSpread t = Sample.withSecrets(1);
        t.row(1, 1);
        t.sealed(2, 0, 1, 0);
        CHECK.due("give it", t.give(2), 1);
        derived(t, "its key is its body", "011");
        t.mix(3, 0, 0, -1);
        t.sealed(4, 3, 1, 0);
        CHECK.due("give another one", t.give(4), 1);
        derived(t, "its key is made of its body", "01101");
    }

    private static void noRuleTakesApartWhatHidesItsTerms() {
        TermSpread t = Sample.withSecrets(2);
        t.face(2, 0);
        t.shared(3, 0, 1);
        t.mix(4, 0, 0, 1);
        t.mix(5, 9, 0, -1);
        for (int x = 2; x <= 5; x++) {
            CHECK.due("give(" + x + ")", t.give(x), 1);
        }
        derived(t, "PUBLIC, SHARED and MIX are GIVEN", "001111");
        t.signed(6, 0, 1);
        t.sealed(7, 0, 2, 2);
        derived(t, "SIGNED and SEALED want the SECRET, too", "00111100");
    }

    private static void everySortMayBeGiven() {
        // The PUBLIC is GIVEN before, and so the MIX of it is DERIVED.
        int[] answers = {-1, 1, 0, 4, 0, 4, 5, 4};
        for (int sort = 1; sort <= 7; sort++) {
            TermSpread t = Sample.fresh();
            CHECK.due("give of sort " + sort, t.give(sort), answers[sort]);
            CHECK.due("it is DERIVED", t.derived(sort), 1);
            CHECK.due("give of sort " + sort + " again", t.give(sort), 0);
        }
    }

    private static void givenThoughLost() {
        TermSpread t = Sample.withSecrets(2);
        t.row(2, 1);
        t.sealed(3, 0, 2, 1);
        t.give(0);
        t.secret(0);
        CHECK.due("the key was GIVEN and stands in no register: the box", t.give(3), 2);
        derived(t, "the body, not the SECRET that came after", "0111");
        TermSpread u = Sample.withSecrets(2);
        u.row(2, 1);
        u.sealed(3, 0, 2, 1);
        u.give(3);
        u.row(3, 2);
        CHECK.due("the box was GIVEN and stands in no register: the key", u.give(0), 2);
        derived(u, "the body", "1111");
    }

    private static void everyPlaceOfARow() {
        for (int k = 0; k < 4; k++) {
            for (int kind = 1; kind <= 7; kind++) {
                TermSpread t = Sample.withSecrets(2);
                t.row(2, kind);
                t.swap(3, 2, k, 0);
                CHECK.due("a ROW of one term: give", t.give(3), 2);
                derived(t, "KIND " + kind + ", term " + k, "1011");
            }
        }
        TermSpread u = Sample.withSecrets(1);
        u.row(1, 4);
        for (int k = 0; k < 4; k++) {
            u.swap(1, 1, k, 0);
        }
        CHECK.due("four times the same term, and three ROWs of it", u.give(1), 5);
    }

    private static void rowsWithinRows() {
        TermSpread t = Sample.withSecrets(1);
        t.row(1, 4);
        t.swap(2, 1, 3, 0);
        for (int i = 0; i < 100; i++) {
            t.swap(2, 1, i % 4, 2);
        }
        CHECK.due("101 ROWs, one in the other, and the SECRET", t.give(2), 102);
        derived(t, "the SECRET", "111");
    }

    private static void headWithoutTheKey() {
        TermSpread t = Sample.withSecrets(3);
        t.sealed(3, 0, 1, 2);
        CHECK.due("the SEALED and its head", t.give(3), 2);
        derived(t, "no key", "0101");
        TermSpread u = Sample.withSecrets(2);
        u.sealed(2, 0, 1, 1);
        CHECK.due("the head is the body", u.give(2), 2);
        derived(u, "the head is the body", "011");
        TermSpread v = Sample.withSecrets(3);
        v.sealed(3, 0, 1, 2);
        v.sealed(4, 0, 3, 2);
        CHECK.due("the head is a SEALED", v.give(4), 3);
        derived(v, "the head of the head", "01011");
    }

    private static void bodyWithTheKey() {
        TermSpread t = Sample.withSecrets(3);
        t.sealed(3, 0, 1, 2);
        CHECK.due("first the key", t.give(0), 1);
        CHECK.due("then the SEALED", t.give(3), 3);
        TermSpread u = Sample.withSecrets(3);
        u.sealed(3, 0, 1, 2);
        CHECK.due("first the SEALED", u.give(3), 2);
        CHECK.due("then the key", u.give(0), 2);
        TermSpread v = Sample.withSecrets(4);
        v.sealed(4, 0, 1, 2);
        v.give(4);
        CHECK.due("another key", v.give(3), 1);
        derived(v, "with another key", "01011");
        for (int key = 1; key <= 7; key++) {
            TermSpread w = Sample.fresh();
            w.sealed(30, key, Sample.PUBLIC, Sample.TARGET);
            w.give(30);
            w.give(key);
            CHECK.due("the body with a key of sort " + key, w.derived(Sample.TARGET), 1);
        }
    }

    private static void keyThatIsTheHead() {
        TermSpread t = Sample.withSecrets(2);
        t.sealed(2, 0, 0, 1);
        CHECK.due("the SEALED, its key as its head, its body", t.give(2), 3);
        derived(t, "the key is the head", "111");
        TermSpread u = Sample.withSecrets(2);
        u.row(2, 1);
        u.swap(3, 2, 2, 0);
        u.sealed(4, 0, 3, 1);
        CHECK.due("the key is in the head", u.give(4), 4);
        derived(u, "the key is in the head", "11111");
    }

    private static void keyThatCanBeMade() {
        TermSpread t = Sample.withSecrets(2);
        t.row(2, 1);
        t.face(3, 0);
        t.mix(4, 2, 3, 2);
        t.sealed(5, 4, 2, 1);
        CHECK.due("the SEALED", t.give(5), 1);
        CHECK.due("the PUBLIC, the MIX of it, the body", t.give(3), 3);
        derived(t, "the key is made", "011111");
        TermSpread u = Sample.withSecrets(1);
        u.row(1, 1);
        u.sealed(2, 1, 1, 0);
        CHECK.due("the key is a ROW of NOTHING: the SEALED, its body", u.give(2), 2);
        TermSpread v = Sample.withSecrets(3);
        v.face(3, 1);
        v.agreed(4, 0, 3);
        v.row(5, 1);
        v.sealed(6, 4, 5, 2);
        v.give(6);
        v.give(3);
        CHECK.due("the key is SHARED: the SECRET, the key, the body", v.give(0), 3);
        derived(v, "the key is SHARED", "1011111");
    }

    /** The keys are MADE in the order in which they come, or in the other one. */
    private static void keyThatComesInManySteps() {
        for (int way = 0; way < 2; way++) {
            int boxes = 60;
            TermSpread t = Sample.withSecrets(boxes + 1);
            t.row(63, 1);
            for (int i = 0; i < boxes; i++) {
                int from = way == 0 ? i : boxes - i;
                t.mix(61, 5, from, -1);
                t.sealed(62, 61, 63, way == 0 ? i + 1 : boxes - i - 1);
                CHECK.due("give box " + i, t.give(62), 1);
            }
            CHECK.due("the first key: all SECRETS and their MIX", t.give(way == 0 ? 0 : boxes), 2 * boxes + 1);
            CHECK.due("all are DERIVED", t.count(1), t.count(0));
        }
    }

    private static void signedTellsItsText() {
        TermSpread t = Sample.withSecrets(2);
        t.signed(2, 0, 1);
        CHECK.due("the SIGNED and its m", t.give(2), 2);
        derived(t, "not its SECRET", "011");
        TermSpread u = Sample.withSecrets(2);
        u.signed(2, 0, 0);
        CHECK.due("m is the SECRET", u.give(2), 2);
        derived(u, "m is the SECRET", "101");
        TermSpread v = Sample.withSecrets(2);
        v.signed(2, 0, 1);
        v.signed(2, 0, 2);
        v.signed(2, 1, 2);
        CHECK.due("SIGNED three times, and its m", v.give(2), 4);
    }

    private static void publicOfASecret() {
        TermSpread t = Sample.withSecrets(2);
        t.face(2, 0);
        t.face(3, 1);
        CHECK.due("the SECRET and its PUBLIC", t.give(0), 2);
        derived(t, "not the other ones", "1010");
        TermSpread u = Sample.withSecrets(1);
        CHECK.due("the SECRET, no PUBLIC MADE", u.give(0), 1);
        CHECK.due("PUBLIC is not counted before it is MADE", u.count(1), 1);
        u.face(1, 0);
        CHECK.due("PUBLIC as it is MADE", u.derived(1), 1);
        CHECK.due("PUBLIC is counted as it is MADE", u.count(1), 2);
        CHECK.due("give it", u.give(1), 0);
    }

    private static void sharedByEitherOne() {
        for (int order = 0; order < 8; order++) {
            int own = order % 2;
            TermSpread t = Sample.withSecrets(2);
            t.face(2, 1 - own);
            if (order / 4 == 0) {
                t.shared(3, own, 1 - own);
            }
            CHECK.due("one of the two", t.give(order / 2 % 2 == 0 ? own : 2), 1);
            CHECK.due("is not enough", t.derived(3), order / 4 == 0 ? 0 : -1);
            CHECK.due("both", t.give(order / 2 % 2 == 0 ? 2 : own), order / 4 == 0 ? 2 : 1);
            t.shared(3, 1 - own, own);
            CHECK.due("SHARED, order " + order, t.derived(3), 1);
            CHECK.due("the other SECRET, order " + order, t.derived(1 - own), 0);
        }
    }

    private static void sharedByAPublicThatComesOutOfATerm() {
        for (int way = 0; way < 3; way++) {
            TermSpread t = Sample.withSecrets(3);
            t.face(3, 1);
            t.shared(4, 0, 1);
            t.row(5, 1);
            if (way == 0) {
                t.swap(5, 5, 3, 3);
            } else if (way == 1) {
                t.sealed(5, 2, 3, 2);
            } else {
                t.signed(5, 2, 3);
            }
            CHECK.due("the SECRET", t.give(0), 1);
            CHECK.due("what has the PUBLIC in it, the PUBLIC, SHARED", t.give(5), 3);
            derived(t, "way " + way, "100111");
        }
        TermSpread u = Sample.withSecrets(3);
        u.shared(3, 0, 1);
        u.sealed(4, 2, 2, 1);
        u.give(0);
        CHECK.due("a SEALED with the other SECRET in it: itself, its key, that, SHARED", u.give(4), 4);
    }

    private static void sharedByNeither() {
        TermSpread t = Sample.withSecrets(3);
        t.face(3, 0);
        t.face(4, 1);
        t.face(5, 2);
        t.shared(6, 0, 1);
        t.give(3);
        t.give(4);
        CHECK.due("a third SECRET", t.give(2), 2);
        derived(t, "both PUBLIC and another SECRET", "0011110");
        TermSpread u = Sample.withSecrets(2);
        u.shared(2, 0, 1);
        u.face(3, 0);
        u.face(4, 1);
        CHECK.due("a SECRET and its own PUBLIC", u.give(0), 2);
        derived(u, "the other PUBLIC is MADE, not DERIVED", "10010");
    }

    private static void sharedOfOneSecret() {
        TermSpread t = Sample.withSecrets(1);
        t.face(1, 0);
        t.shared(2, 0, 0);
        CHECK.due("the PUBLIC", t.give(1), 1);
        derived(t, "the PUBLIC alone", "010");
        CHECK.due("the SECRET", t.give(0), 2);
        TermSpread u = Sample.withSecrets(1);
        u.shared(1, 0, 0);
        CHECK.due("the SECRET, no PUBLIC MADE", u.give(0), 2);
        derived(u, "no PUBLIC MADE", "11");
    }

    private static void sharedWhereNoPublicIsMade() {
        for (int first = 0; first < 2; first++) {
            TermSpread t = Sample.withSecrets(2);
            t.shared(2, 0, 1);
            CHECK.due("one SECRET", t.give(first), 1);
            CHECK.due("is not enough", t.derived(2), 0);
            CHECK.due("the other one and SHARED", t.give(1 - first), 2);
            TermSpread u = Sample.withSecrets(2);
            u.give(first);
            u.give(1 - first);
            u.shared(2, 0, 1);
            CHECK.due("SHARED as it is MADE", u.derived(2), 1);
            CHECK.due("no PUBLIC is counted", u.count(1), 3);
        }
        TermSpread v = Sample.withSecrets(2);
        v.shared(2, 0, 1);
        v.row(3, 1);
        v.sealed(4, 2, 3, 1);
        v.give(4);
        CHECK.due("the key wants a SECRET that is in the box", v.give(0), 1);
        derived(v, "shut", "10011");
    }

    private static void wholesWantAllTheirTerms() {
        for (int kept = 0; kept < 4; kept++) {
            TermSpread t = Sample.withSecrets(4);
            t.row(10, 1);
            t.swap(10, 10, 0, 0);
            t.swap(10, 10, 1, 1);
            t.swap(10, 10, 2, 2);
            t.swap(10, 10, 3, 3);
            t.sealed(11, 0, 1, 2);
            t.mix(12, 4, 0, 1);
            t.signed(13, 0, 1);
            for (int x = 0; x < 4; x++) {
                if (x != kept) {
                    t.give(x);
                }
            }
            CHECK.due("ROW without " + kept, t.derived(10), 0);
            CHECK.due("SEALED without " + kept, t.derived(11), kept < 3 ? 0 : 1);
            CHECK.due("MIX without " + kept, t.derived(12), kept < 2 ? 0 : 1);
            CHECK.due("SIGNED without " + kept, t.derived(13), kept < 2 ? 0 : 1);
            t.give(kept);
            CHECK.due("all terms: all that is MADE", t.count(0) - t.count(1), 0);
            t.sealed(20, 3, 2, 1);
            t.mix(21, 9, 3, 2);
            t.signed(22, 3, 21);
            t.swap(23, 10, 0, 20);
            for (int x = 20; x <= 23; x++) {
                CHECK.due("MADE after all its terms were DERIVED: " + x, t.derived(x), 1);
            }
        }
    }

    private static void nothingCountsAsInIt() {
        TermSpread t = Sample.withSecrets(1);
        t.mix(1, 0, 0, -1);
        t.row(2, 1);
        t.swap(2, 2, 3, 0);
        derived(t, "before", "000");
        CHECK.due("the SECRET, MIX and ROW", t.give(0), 3);
        t.mix(3, 1, 0, -1);
        t.swap(4, 2, 3, -1);
        t.alter(4, 4, 0, 5);
        t.swap(5, 4, 0, 0);
        derived(t, "and what is MADE later", "111111");
    }

    private static void rowOfNothingAlone() {
        TermSpread t = new TermSpread();
        for (int kind = 1; kind <= 7; kind++) {
            t.row(kind, kind);
            CHECK.due("KIND " + kind, t.derived(kind), 1);
            CHECK.due("KIND " + kind + " is counted", t.count(1), kind);
            CHECK.due("KIND " + kind + ": give", t.give(kind), 0);
        }
        t.alter(10, 1, 2, Sample.LOW);
        CHECK.due("of any numbers", t.derived(10), 1);
        t.secret(11);
        t.swap(12, 1, 0, 11);
        CHECK.due("with a SECRET", t.derived(12), 0);
        t.alter(13, 12, 3, 9);
        CHECK.due("altered", t.derived(13), 0);
        t.swap(14, 13, 0, -1);
        CHECK.due("the SECRET taken out", t.derived(14), 1);
        CHECK.due("MADE", t.count(0), 12);
        CHECK.due("DERIVED", t.count(1), 9);
    }
}
