/** Promises 1 to 18, one by one: the bounds of each call's arguments, and its answer at each. */
public final class BoundsOfPromisesTest {
    private static final Check CHECK = new Check();
    private static final int LOW = Sample.LOW;
    private static final int HIGH = Sample.HIGH;

    public static void main(String[] args) {
        CHECK.sentence("Promise 1: No terms.");
        noTerms();
        CHECK.sentence("Promise 2: Register r gets a SECRET: 1.");
        secret();
        CHECK.sentence("Promise 3: Register r gets PUBLIC of the SECRET in register x: 1.");
        face();
        CHECK.sentence("Promise 4: Register r gets SHARED of two SECRETS: 1.");
        shared();
        CHECK.sentence("Promise 5: Register r gets SHARED(s, t), x having the SECRET s, y PUBLIC(t): 1.");
        agreed();
        CHECK.sentence("Promise 6: Register r gets MIX n(x, y) (y -1: NOTHING): 1.");
        mix();
        CHECK.sentence("Promise 7: Register r gets SEALED(k, h, b): 1.");
        sealed();
        CHECK.sentence("Promise 8: Register r gets SIGNED(x, y), x having a SECRET: 1.");
        signed();
        CHECK.sentence("Promise 9: Register r gets a ROW of a KIND, its numbers 0, its terms NOTHING: 1.");
        row();
        CHECK.sentence("Promise 10: the ROW in register x with the number k (0 .. 3) v, or (k 4) the KIND v: 1.");
        alterNumbers();
        alterKind();
        CHECK.sentence("Promise 11: the ROW in register x with the term k (0 .. 3) of register y (-1: NOTHING): 1.");
        swap();
        CHECK.sentence("Promise 12: 0 .. 3: that term of a ROW, 4 .. 6: key, head, body of a SEALED, 7: the m of a SIGNED,"
            + " 8, 9: the terms of a MIX: 1.");
        part();
        CHECK.sentence("Promise 12: NONE, too: NOTHING stands there.");
        partThatIsNothing();
        CHECK.sentence("Promise 13: how many of the terms that are MADE came to be DERIVED by that.");
        give();
        CHECK.sentence("Promise 14: Whether the term in register x is DERIVED (1, 0).");
        derived();
        CHECK.sentence("Promise 15: Whether two registers have the same term (1, 0).");
        same();
        CHECK.sentence("Promise 16: Whether the ROW in register x is GOOD (1, 0).");
        good();
        CHECK.sentence("Promise 17: what 0: 1 SECRET, 2 PUBLIC, 3 SHARED, 4 MIX, 5 SEALED, 6 SIGNED, 7 ROW; 1: n of a MIX,"
            + " the KIND of a ROW, 0 of others; 2 .. 5: numbers of a ROW, 0 of others.");
        about();
        CHECK.sentence("Promise 18: What 0: how many terms are MADE, 1: how many of these are DERIVED.");
        count();
        CHECK.end();
    }

    private static void noTerms() {
        TermSpread t = new TermSpread();
        CHECK.due("count(0)", t.count(0), 0);
        CHECK.due("count(1)", t.count(1), 0);
        for (int x = -1; x <= 64; x++) {
            CHECK.due("about(" + x + ", 0)", t.about(x, 0), -1);
            CHECK.due("derived(" + x + ")", t.derived(x), -1);
            CHECK.due("same(" + x + ", " + x + ")", t.same(x, x), -1);
            CHECK.due("give(" + x + ")", t.give(x), -1);
        }
        CHECK.due("the first term", t.secret(0), 1);
        CHECK.due("is the only one", t.count(0), 1);
    }

    private static void secret() {
        TermSpread t = new TermSpread();
        for (int r : Sample.noRegisters()) {
            CHECK.due("secret(" + r + ")", t.secret(r), -1);
        }
        CHECK.due("refused ones are not MADE", t.count(0), 0);
        for (int r = 0; r < 64; r++) {
            CHECK.due("secret(" + r + ")", t.secret(r), 1);
            CHECK.due("about(" + r + ", 0)", t.about(r, 0), 1);
            CHECK.due("derived(" + r + ")", t.derived(r), 0);
        }
        CHECK.due("all are MADE", t.count(0), 64);
    }

    private static void face() {
        TermSpread t = Sample.withSecrets(64);
        CHECK.due("face(0, 63)", t.face(0, 63), 1);
        CHECK.due("face(63, 63)", t.face(63, 63), 1);
        CHECK.due("both are PUBLIC of the SECRET that was in 63", t.same(0, 63), 1);
        CHECK.due("face(1, 63), of a PUBLIC", t.face(1, 63), -1);
        CHECK.due("its register keeps its term", t.about(1, 0), 1);
    }

    private static void shared() {
        TermSpread t = Sample.withSecrets(64);
        CHECK.due("shared(1, 0, 63)", t.shared(1, 0, 63), 1);
        CHECK.due("shared(2, 63, 0)", t.shared(2, 63, 0), 1);
        CHECK.due("same(1, 2)", t.same(1, 2), 1);
        CHECK.due("shared(0, 0, 63)", t.shared(0, 0, 63), 1);
        CHECK.due("same(0, 1)", t.same(0, 1), 1);
        CHECK.due("shared(3, 0, 63), of SHARED", t.shared(3, 0, 63), -1);
        CHECK.due("shared(3, 63, 0), with SHARED", t.shared(3, 63, 0), -1);
        CHECK.due("its register keeps its term", t.about(3, 0), 1);
        CHECK.due("shared(63, 63, 63)", t.shared(63, 63, 63), 1);
    }

    private static void agreed() {
        TermSpread t = Sample.withSecrets(3);
        t.face(3, 1);
        CHECK.due("agreed(4, 0, 3)", t.agreed(4, 0, 3), 1);
        CHECK.due("agreed(5, 3, 0), the wrong way round", t.agreed(5, 3, 0), -1);
        CHECK.due("agreed(5, 0, 1), two SECRETS", t.agreed(5, 0, 1), -1);
        CHECK.due("agreed(5, 3, 3), two PUBLIC", t.agreed(5, 3, 3), -1);
        CHECK.due("the register stays empty", t.about(5, 0), -1);
        CHECK.due("agreed(6, 2, 3), another SECRET", t.agreed(6, 2, 3), 1);
        CHECK.due("is another one", t.same(4, 6), 0);
        t.shared(7, 1, 0);
        CHECK.due("the same as shared", t.same(4, 7), 1);
        t.secret(1);
        CHECK.due("agreed(8, 0, 3), t standing in no register", t.agreed(8, 0, 3), 1);
        CHECK.due("is the same yet", t.same(4, 8), 1);
        CHECK.due("neither SECRET nor PUBLIC is MADE by it", t.count(0), 7);
    }

    private static void mix() {
        TermSpread t = Sample.withSecrets(2);
        for (int n = -2; n <= 11; n++) {
            boolean isGood = n >= 0 && n <= 9;
            CHECK.due("mix n " + n, t.mix(10, n, 0, 1), isGood ? 1 : -1);
            CHECK.due("mix n " + n + ", y -1", t.mix(11, n, 0, -1), isGood ? 1 : -1);
            CHECK.due("mix n " + n + ", x -1", t.mix(12, n, -1, 0), -1);
            CHECK.due("mix n " + n + ", x and y -1", t.mix(12, n, -1, -1), -1);
            CHECK.due("mix n " + n + ", y -2", t.mix(12, n, 0, -2), -1);
        }
        CHECK.due("the last MIX is of n 9", t.about(10, 1), 9);
        CHECK.due("with NOTHING, too", t.about(11, 1), 9);
        CHECK.due("they differ", t.same(10, 11), 0);
        CHECK.due("refused ones stand nowhere", t.about(12, 0), -1);
        CHECK.due("two of each n are MADE", t.count(0), 22);
    }

    private static void sealed() {
        TermSpread t = Sample.withSecrets(64);
        CHECK.due("sealed(63, 63, 63, 63)", t.sealed(63, 63, 63, 63), 1);
        CHECK.due("sealed(0, 63, 0, 1)", t.sealed(0, 63, 0, 1), 1);
        for (int x : new int[] {-1, 64, LOW, HIGH}) {
            CHECK.due("sealed k " + x, t.sealed(2, x, 0, 0), -1);
            CHECK.due("sealed h " + x, t.sealed(2, 0, x, 0), -1);
            CHECK.due("sealed b " + x, t.sealed(2, 0, 0, x), -1);
            CHECK.due("sealed r " + x, t.sealed(x, 0, 0, 0), -1);
        }
        CHECK.due("the register keeps its SECRET", t.about(2, 0), 1);
        CHECK.due("two are MADE", t.count(0), 66);
    }

    private static void signed() {
        TermSpread t = Sample.withSecrets(64);
        CHECK.due("signed(63, 63, 63)", t.signed(63, 63, 63), 1);
        CHECK.due("signed(1, 0, 63)", t.signed(1, 0, 63), 1);
        CHECK.due("signed(2, 63, 0), by a SIGNED", t.signed(2, 63, 0), -1);
        for (int x : new int[] {-1, 64, LOW, HIGH}) {
            CHECK.due("signed x " + x, t.signed(2, x, 0), -1);
            CHECK.due("signed y " + x, t.signed(2, 0, x), -1);
            CHECK.due("signed r " + x, t.signed(x, 0, 0), -1);
        }
        CHECK.due("the register keeps its SECRET", t.about(2, 0), 1);
        CHECK.due("two are MADE", t.count(0), 66);
    }

    private static void row() {
        TermSpread t = new TermSpread();
        for (int kind = -1; kind <= 9; kind++) {
            boolean isGood = kind >= 1 && kind <= 7;
            CHECK.due("row(63, " + kind + ")", t.row(63, kind), isGood ? 1 : -1);
            if (isGood) {
                CHECK.due("its sort", t.about(63, 0), 7);
                CHECK.due("its KIND", t.about(63, 1), kind);
                for (int k = 0; k < 4; k++) {
                    CHECK.due("its number " + k, t.about(63, 2 + k), 0);
                    CHECK.due("its term " + k, t.part(0, 63, k), -1);
                }
            }
        }
        CHECK.due("the last one stays", t.about(63, 1), 7);
    }

    private static void alterNumbers() {
        for (int k = -1; k <= 6; k++) {
            for (int v : new int[] {LOW, -1, 0, 8, 63, 64, 9999, 10000, HIGH}) {
                TermSpread t = Sample.fresh();
                boolean isNumber = k >= 0 && k <= 3;
                CHECK.due("alter k " + k + " v " + v, t.alter(10, Sample.ROW, k, v), isNumber ? 1 : -1);
                for (int i = 0; isNumber && i < 4; i++) {
                    CHECK.due("number " + i, t.about(10, 2 + i), i == k ? v : i == 3 ? -7 : 0);
                }
                CHECK.due("the ROW before", t.about(Sample.ROW, 5), -7);
                CHECK.due("its KIND", t.about(10, 1), isNumber ? 4 : -1);
            }
        }
    }

    private static void alterKind() {
        for (int kind = -1; kind <= 9; kind++) {
            TermSpread t = Sample.fresh();
            boolean isGood = kind >= 1 && kind <= 7;
            CHECK.due("alter k 4 v " + kind, t.alter(10, Sample.ROW, 4, kind), isGood ? 1 : -1);
            CHECK.due("its KIND", t.about(10, 1), isGood ? kind : -1);
            CHECK.due("its last number", t.about(10, 5), isGood ? -7 : -1);
            CHECK.due("its first term", t.part(11, 10, 0), isGood ? 1 : -1);
            CHECK.due("is the same", t.same(11, Sample.SHARED), isGood ? 1 : -1);
            CHECK.due("the ROW before", t.about(Sample.ROW, 1), 4);
            CHECK.due("the KIND that it has is the same ROW", t.same(10, Sample.ROW), isGood ? kind == 4 ? 1 : 0 : -1);
        }
    }

    private static void swap() {
        for (int k = -2; k <= 5; k++) {
            boolean isGood = k >= 0 && k <= 3;
            for (int y : new int[] {-2, -1, 0, Sample.SECRET, Sample.TARGET, 63, 64}) {
                TermSpread t = Sample.fresh();
                boolean isTerm = y == Sample.SECRET || y == Sample.TARGET;
                int want = isGood && (isTerm || y == -1) ? 1 : -1;
                CHECK.due("swap k " + k + " y " + y, t.swap(10, Sample.ROW, k, y), want);
                CHECK.due("its last number", t.about(10, 5), want == 1 ? -7 : -1);
                CHECK.due("its KIND", t.about(10, 1), want == 1 ? 4 : -1);
                CHECK.due("its term " + k, t.part(11, 10, k), want == 1 && isTerm ? 1 : -1);
                CHECK.due("is that of the register", t.same(11, y), want == 1 && isTerm ? 1 : -1);
                CHECK.due("the first term", t.part(12, 10, 0), want == 1 && (k != 0 || isTerm) ? 1 : -1);
                CHECK.due("the ROW before", t.part(13, Sample.ROW, 0) * t.same(13, Sample.SHARED), 1);
            }
        }
        TermSpread u = Sample.withSecrets(64);
        u.row(63, 7);
        CHECK.due("swap(63, 63, 3, 63)", u.swap(63, 63, 3, 63), 1);
        CHECK.due("swap(0, 63, 3, 0)", u.swap(0, 63, 3, 0), 1);
        CHECK.due("its term 3 is the SECRET", u.part(0, 0, 3) * u.about(0, 0), 1);
    }

    private static void part() {
        for (int x = 1; x <= 7; x++) {
            for (int what = -2; what <= 11; what++) {
                TermSpread t = Sample.fresh();
                for (int k = 0; k < 4; k++) {
                    t.swap(Sample.ROW, Sample.ROW, k, 1 + k);
                }
                t.mix(Sample.MIX, 6, Sample.SEALED, Sample.SIGNED);
                boolean has = what >= 0 && what <= 9 && "7777555644".charAt(what) == '0' + x;
                int made = t.count(0);
                CHECK.due("part " + what + " of sort " + x, t.part(63, x, what), has ? 1 : -1);
                CHECK.due("its sort", t.about(63, 0), has ? "1234423556".charAt(what) - '0' : -1);
                CHECK.due("nothing is MADE", t.count(0), made);
            }
        }
    }

    private static void partThatIsNothing() {
        TermSpread t = Sample.withSecrets(2);
        t.mix(2, 0, 0, -1);
        CHECK.due("the second one of a MIX", t.part(1, 2, 9), -1);
        t.row(3, 1);
        for (int k = 0; k < 4; k++) {
            CHECK.due("term " + k + " of a ROW of NOTHING", t.part(1, 3, k), -1);
            t.swap(4, 3, k, 0);
            for (int other = 0; other < 4; other++) {
                if (other != k) {
                    CHECK.due("term " + other + " of a ROW with term " + k, t.part(1, 4, other), -1);
                }
            }
        }
        CHECK.due("the register keeps its SECRET", t.about(1, 0), 1);
        CHECK.due("which is no other one", t.same(0, 1), 0);
        CHECK.due("MADE", t.count(0), 8);
    }

    private static void give() {
        TermSpread t = Sample.withSecrets(64);
        for (int x : Sample.noRegisters()) {
            CHECK.due("give(" + x + ")", t.give(x), -1);
        }
        CHECK.due("refused ones derive nothing", t.count(1), 0);
        CHECK.due("give(0)", t.give(0), 1);
        CHECK.due("give(63)", t.give(63), 1);
        CHECK.due("give(63) again", t.give(63), 0);
        t.mix(0, 1, 63, 0);
        CHECK.due("what was DERIVED as it was MADE", t.give(0), 0);
        t.secret(10);
        t.mix(11, 1, 10, -1);
        t.mix(12, 1, 11, -1);
        t.row(11, 1);
        t.face(12, 10);
        CHECK.due("terms that stand in no register are counted", t.give(10), 4);
        TermSpread u = new TermSpread();
        CHECK.due("give of an empty register", u.give(0), -1);
        u.secret(0);
        CHECK.due("PUBLIC that is not MADE is not counted", u.give(0), 1);
    }

    private static void derived() {
        TermSpread t = Sample.withSecrets(64);
        t.give(63);
        for (int x = 0; x < 64; x++) {
            CHECK.due("derived(" + x + ")", t.derived(x), x == 63 ? 1 : 0);
        }
        for (int x : Sample.noRegisters()) {
            CHECK.due("derived(" + x + ")", t.derived(x), -1);
        }
        Sample.copy(t, 63, 0);
        t.secret(63);
        CHECK.due("it is the term that is DERIVED: 0", t.derived(0), 1);
        CHECK.due("it is not the register: 63", t.derived(63), 0);
    }

    private static void same() {
        TermSpread t = Sample.withSecrets(63);
        Sample.copy(t, 0, 63);
        CHECK.due("same(0, 63)", t.same(0, 63), 1);
        CHECK.due("same(63, 0)", t.same(63, 0), 1);
        CHECK.due("same(63, 63)", t.same(63, 63), 1);
        CHECK.due("same(1, 63)", t.same(1, 63), 0);
        for (int x : Sample.noRegisters()) {
            CHECK.due("same(" + x + ", 0)", t.same(x, 0), -1);
            CHECK.due("same(0, " + x + ")", t.same(0, x), -1);
            CHECK.due("same(" + x + ", " + x + ")", t.same(x, x), -1);
        }
        TermSpread u = Sample.withSecrets(1);
        CHECK.due("same(0, 1), one empty", u.same(0, 1), -1);
        CHECK.due("same(1, 0), one empty", u.same(1, 0), -1);
        CHECK.due("same(1, 1), empty", u.same(1, 1), -1);
        CHECK.due("same(1, 2), both empty", u.same(1, 2), -1);
    }

    private static void good() {
        TermSpread t = Sample.fresh();
        for (int x = 1; x <= 6; x++) {
            CHECK.due("good of sort " + x, t.good(x), -1);
        }
        CHECK.due("a ROW that is not GOOD", t.good(Sample.ROW), 0);
        t.row(0, 6);
        t.alter(63, 0, 1, 1);
        CHECK.due("good(0)", t.good(0), 0);
        CHECK.due("good(63)", t.good(63), 1);
        for (int x : Sample.noRegisters()) {
            CHECK.due("good(" + x + ")", t.good(x), -1);
        }
        CHECK.due("good of an empty register", t.good(Sample.EMPTY), -1);
    }

    private static void about() {
        for (int x = 1; x <= 7; x++) {
            TermSpread t = Sample.fresh();
            for (int k = 0; k < 4; k++) {
                t.alter(Sample.ROW, Sample.ROW, k, k % 2 == 0 ? LOW + k : HIGH - k);
            }
            CHECK.due("about(" + x + ", 0)", t.about(x, 0), x);
            CHECK.due("about(" + x + ", 1)", t.about(x, 1), x == Sample.MIX ? 6 : x == Sample.ROW ? 4 : 0);
            for (int k = 0; k < 4; k++) {
                int number = k % 2 == 0 ? LOW + k : HIGH - k;
                CHECK.due("about(" + x + ", " + (2 + k) + ")", t.about(x, 2 + k), x == Sample.ROW ? number : 0);
            }
            for (int what : Sample.outside(0, 5)) {
                CHECK.due("about(" + x + ", " + what + ")", t.about(x, what), -1);
            }
            for (int what : new int[] {LOW + 1, LOW + 2, LOW + 5, HIGH - 1}) {
                CHECK.due("about(" + x + ", " + what + ")", t.about(x, what), -1);
            }
        }
        for (int what = 0; what <= 5; what++) {
            CHECK.due("about an empty register, " + what, Sample.fresh().about(Sample.EMPTY, what), -1);
            CHECK.due("about(-1, " + what + ")", Sample.fresh().about(-1, what), -1);
            CHECK.due("about(64, " + what + ")", Sample.fresh().about(64, what), -1);
        }
    }

    private static void count() {
        TermSpread t = Sample.withSecrets(3);
        for (int what : Sample.outside(0, 1)) {
            CHECK.due("count(" + what + ")", t.count(what), -1);
        }
        CHECK.due("none is DERIVED", t.count(1), 0);
        t.give(1);
        CHECK.due("one is DERIVED", t.count(1), 1);
        t.row(3, 1);
        CHECK.due("a ROW of NOTHING, too", t.count(1), 2);
        CHECK.due("MADE", t.count(0), 4);
        t.secret(1);
        CHECK.due("a lost one is DERIVED yet", t.count(1), 2);
        CHECK.due("and MADE yet", t.count(0), 5);
        t.give(0);
        t.give(1);
        t.give(2);
        CHECK.due("all are DERIVED", t.count(1), t.count(0));
    }
}
