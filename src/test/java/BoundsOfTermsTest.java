import java.util.List;
import java.util.function.ToIntFunction;

/** The document's paragraph on TERMS: each sentence that names a bound. */
public final class BoundsOfTermsTest {
    private static final Check CHECK = new Check();

    public static void main(String[] args) {
        CHECK.sentence("A SECRET, each that is made another one.");
        everySecretIsAnother();
        CHECK.sentence("PUBLIC(s) of a SECRET.");
        everySecretHasOnePublic();
        CHECK.sentence("SHARED(s, t) of two SECRETS (SHARED(t, s) is the same; s and t may be one).");
        sharedEitherWay();
        sharedOfOne();
        CHECK.sentence("MIX n(a, b), n 0 .. 9.");
        everyNMakesAnotherMix();
        CHECK.sentence("SEALED(k, h, b): with the key k, a head h, a body b.");
        sealedOfAnyThree();
        CHECK.sentence("SIGNED(s, m) by a SECRET s.");
        signedOfAnyTerm();
        CHECK.sentence("ROW of a KIND 1 .. 7, with four numbers (ints) and four terms.");
        everyKindMakesAnotherRow();
        rowsKeepWholeInts();
        rowsKeepFourTerms();
        CHECK.sentence("only terms of a ROW and the second one of a MIX may be NOTHING");
        nothingWhereItMayStand();
        nothingWhereItMayNot();
        CHECK.sentence("Two terms are the same if they are made alike of the same ones.");
        madeAlike();
        notMadeAlike();
        CHECK.sentence("A term is MADE when a call has put it into a register for the first time");
        madeTheFirstTimeOnly();
        madeThoughLost();
        CHECK.sentence("(PUBLIC of a SECRET, too)");
        publicIsMadeByFaceAlone();
        CHECK.end();
    }

    private static void everySecretIsAnother() {
        TermSpread t = Sample.withSecrets(20);
        for (int x = 0; x < 20; x++) {
            for (int y = 0; y < 20; y++) {
                CHECK.due("same(" + x + ", " + y + ")", t.same(x, y), x == y ? 1 : 0);
            }
        }
        CHECK.due("all are MADE", t.count(0), 20);
        TermSpread u = Sample.withSecrets(1);
        Sample.copy(u, 0, 1);
        u.secret(0);
        CHECK.due("in the same register again", u.same(0, 1), 0);
    }

    private static void everySecretHasOnePublic() {
        TermSpread t = Sample.withSecrets(10);
        for (int x = 0; x < 10; x++) {
            t.face(10 + x, x);
            t.face(20 + x, x);
        }
        for (int x = 0; x < 10; x++) {
            for (int y = 0; y < 10; y++) {
                CHECK.due("PUBLIC of " + x + " and of " + y, t.same(10 + x, 20 + y), x == y ? 1 : 0);
            }
        }
        for (int sort = 2; sort <= 7; sort++) {
            CHECK.due("PUBLIC of sort " + sort, Sample.fresh().face(0, sort), -1);
        }
    }

    private static void sharedEitherWay() {
        TermSpread t = Sample.withSecrets(4);
        for (int x = 0; x < 4; x++) {
            for (int y = 0; y < 4; y++) {
                t.shared(10 + 4 * x + y, x, y);
            }
        }
        for (int a = 0; a < 16; a++) {
            for (int b = 0; b < 16; b++) {
                boolean alike = a == b || a / 4 == b % 4 && a % 4 == b / 4;
                CHECK.due("pairs " + a + " and " + b, t.same(10 + a, 10 + b), alike ? 1 : 0);
            }
        }
        CHECK.due("four SECRETS, ten pairs", t.count(0), 14);
    }

    private static void sharedOfOne() {
        TermSpread t = Sample.withSecrets(2);
        CHECK.due("shared(2, 0, 0)", t.shared(2, 0, 0), 1);
        CHECK.due("shared(3, 1, 1)", t.shared(3, 1, 1), 1);
        CHECK.due("of another one", t.same(2, 3), 0);
        CHECK.due("is no SECRET", t.same(2, 0), 0);
        t.face(4, 0);
        CHECK.due("is no PUBLIC", t.same(2, 4), 0);
        CHECK.due("agreed(5, 0, 4)", t.agreed(5, 0, 4), 1);
        CHECK.due("is the same", t.same(2, 5), 1);
    }

    private static void everyNMakesAnotherMix() {
        TermSpread t = Sample.withSecrets(1);
        for (int n = 0; n <= 9; n++) {
            CHECK.due("mix n " + n, t.mix(10 + n, n, 0, 0), 1);
            CHECK.due("its n", t.about(10 + n, 1), n);
        }
        for (int n = 0; n < 9; n++) {
            CHECK.due("n " + n + " and the next", t.same(10 + n, 11 + n), 0);
        }
        CHECK.due("all are MADE", t.count(0), 11);
        for (int n : Sample.outside(0, 9)) {
            CHECK.due("mix n " + n, t.mix(0, n, 0, 0), -1);
        }
        CHECK.due("no more is MADE", t.count(0), 11);
    }

    private static void sealedOfAnyThree() {
        for (int k = 1; k <= 7; k++) {
            for (int h = 1; h <= 7; h++) {
                for (int b = 1; b <= 7; b++) {
                    TermSpread t = Sample.fresh();
                    String call = "sealed of the sorts " + k + ", " + h + ", " + b;
                    CHECK.due(call, t.sealed(0, k, h, b), 1);
                    CHECK.due(call + ": key", t.part(10, 0, 4) * t.same(10, k), 1);
                    CHECK.due(call + ": head", t.part(10, 0, 5) * t.same(10, h), 1);
                    CHECK.due(call + ": body", t.part(10, 0, 6) * t.same(10, b), 1);
                }
            }
        }
    }

    private static void signedOfAnyTerm() {
        for (int sort = 1; sort <= 7; sort++) {
            TermSpread t = Sample.fresh();
            CHECK.due("signed, m of sort " + sort, t.signed(0, Sample.SECRET, sort), 1);
            CHECK.due("its m", t.part(10, 0, 7) * t.same(10, sort), 1);
            CHECK.due("signed by sort " + sort, t.signed(0, sort, Sample.ROW), sort == 1 ? 1 : -1);
        }
    }

    private static void everyKindMakesAnotherRow() {
        TermSpread t = new TermSpread();
        for (int kind = 1; kind <= 7; kind++) {
            CHECK.due("row of KIND " + kind, t.row(kind, kind), 1);
            CHECK.due("its KIND", t.about(kind, 1), kind);
        }
        for (int kind = 1; kind < 7; kind++) {
            CHECK.due("KIND " + kind + " and the next", t.same(kind, kind + 1), 0);
        }
        for (int kind : Sample.outside(1, 7)) {
            CHECK.due("row of KIND " + kind, t.row(0, kind), -1);
            CHECK.due("alter to KIND " + kind, t.alter(0, 1, 4, kind), -1);
        }
        CHECK.due("seven are MADE", t.count(0), 7);
    }

    private static void rowsKeepWholeInts() {
        int[] ints = {Sample.LOW, Sample.LOW + 1, -65536, -129, -2, -1, 0, 1, 127, 128, 255, 256, 32767, 32768, 65535,
            65536, Sample.HIGH - 1, Sample.HIGH};
        for (int k = 0; k < 4; k++) {
            TermSpread t = new TermSpread();
            t.row(63, 7);
            for (int i = 0; i < ints.length; i++) {
                CHECK.due("alter number " + k + " to " + ints[i], t.alter(i, 63, k, ints[i]), 1);
                for (int other = 0; other < 4; other++) {
                    CHECK.due("number " + other, t.about(i, 2 + other), other == k ? ints[i] : 0);
                }
            }
            for (int i = 1; i < ints.length; i++) {
                CHECK.due("another number, another ROW", t.same(i - 1, i), 0);
            }
            CHECK.due("all are MADE, one by row", t.count(0), ints.length);
        }
    }

    private static void rowsKeepFourTerms() {
        TermSpread t = Sample.fresh();
        t.row(10, 1);
        for (int k = 0; k < 4; k++) {
            t.swap(11 + k, 10 + k, k, 1 + k);
        }
        for (int k = 0; k < 4; k++) {
            CHECK.due("term " + k + " of the last ROW", t.part(20, 14, k) * t.same(20, 1 + k), 1);
            CHECK.due("term " + k + " of the ROW before it was set", t.part(20, 10 + k, k), -1);
        }
    }

    private static void nothingWhereItMayStand() {
        TermSpread t = Sample.withSecrets(1);
        CHECK.due("second one of a MIX", t.mix(1, 0, 0, -1), 1);
        CHECK.due("which is NOTHING", t.part(60, 1, 9), -1);
        t.row(2, 1);
        for (int k = 0; k < 4; k++) {
            CHECK.due("term " + k + " of a new ROW is NOTHING", t.part(60, 2, k), -1);
            t.swap(3, 2, k, 0);
            CHECK.due("and then it is not", t.part(60, 3, k), 1);
            CHECK.due("swap it to NOTHING", t.swap(4, 3, k, -1), 1);
            CHECK.due("as it was", t.same(4, 2), 1);
        }
    }

    private static void nothingWhereItMayNot() {
        for (Calls.Source source : Calls.sources()) {
            TermSpread t = Sample.fresh();
            int made = t.count(0);
            CHECK.due(source.name() + " -1", source.call().on(t, -1), source.takesNothing() ? 1 : -1);
            if (!source.takesNothing()) {
                CHECK.due(source.name() + " -1: MADE", t.count(0), made);
            }
        }
    }

    /** Each makes a term of Sample.fresh() in the register r, all of them different ones. */
    private interface Maker {
        int into(TermSpread t, int r);
    }

    private static final List<Maker> MAKERS = List.of(
        (t, r) -> t.face(r, 1), (t, r) -> t.face(r, 8),
        (t, r) -> t.shared(r, 1, 1), (t, r) -> t.shared(r, 1, 8), (t, r) -> t.shared(r, 8, 8),
        (t, r) -> t.mix(r, 0, 1, 2), (t, r) -> t.mix(r, 1, 1, 2), (t, r) -> t.mix(r, 0, 2, 1),
        (t, r) -> t.mix(r, 0, 1, 1), (t, r) -> t.mix(r, 0, 1, -1), (t, r) -> t.mix(r, 0, 3, 2),
        (t, r) -> t.sealed(r, 1, 2, 3), (t, r) -> t.sealed(r, 2, 1, 3), (t, r) -> t.sealed(r, 1, 3, 2),
        (t, r) -> t.sealed(r, 4, 2, 3), (t, r) -> t.sealed(r, 1, 4, 3), (t, r) -> t.sealed(r, 1, 2, 4),
        (t, r) -> t.signed(r, 1, 2), (t, r) -> t.signed(r, 8, 2), (t, r) -> t.signed(r, 1, 8),
        (t, r) -> t.row(r, 1), (t, r) -> t.row(r, 2),
        (t, r) -> t.alter(r, 7, 0, 1), (t, r) -> t.alter(r, 7, 1, 1), (t, r) -> t.alter(r, 7, 2, 1),
        (t, r) -> t.alter(r, 7, 3, 1), (t, r) -> t.alter(r, 7, 0, 2), (t, r) -> t.alter(r, 7, 4, 1),
        (t, r) -> t.swap(r, 7, 0, 1), (t, r) -> t.swap(r, 7, 1, 1), (t, r) -> t.swap(r, 7, 2, 1),
        (t, r) -> t.swap(r, 7, 3, 1), (t, r) -> t.swap(r, 7, 0, 2), (t, r) -> t.swap(r, 7, 0, -1));

    private static void madeAlike() {
        for (int i = 0; i < MAKERS.size(); i++) {
            for (int j = 0; j < MAKERS.size(); j++) {
                TermSpread t = Sample.fresh();
                MAKERS.get(i).into(t, 30);
                MAKERS.get(j).into(t, 31);
                int made = t.count(0);
                CHECK.due("made again", MAKERS.get(i).into(t, 32), 1);
                CHECK.due("maker " + i + " twice, " + j + " between", t.same(30, 32), 1);
                CHECK.due("maker " + i + " twice: MADE", t.count(0), made);
            }
        }
        TermSpread t = Sample.fresh();
        Sample.copy(t, 3, 33);
        t.mix(34, 5, 3, -1);
        t.mix(35, 5, 33, -1);
        CHECK.due("of the same one in another register", t.same(34, 35), 1);
        t.row(36, 4);
        t.alter(36, 36, 3, -7);
        t.swap(36, 36, 0, 3);
        CHECK.due("a ROW by other steps", t.same(36, 7), 1);
    }

    private static void notMadeAlike() {
        for (int i = 0; i < MAKERS.size(); i++) {
            for (int j = 0; j < MAKERS.size(); j++) {
                TermSpread t = Sample.fresh();
                MAKERS.get(i).into(t, 30);
                MAKERS.get(j).into(t, 31);
                CHECK.due("makers " + i + " and " + j, t.same(30, 31), i == j ? 1 : 0);
            }
        }
        TermSpread t = Sample.withSecrets(2);
        t.mix(2, 0, 0, -1);
        t.mix(3, 0, 1, -1);
        t.sealed(4, 2, 2, 2);
        t.sealed(5, 2, 2, 3);
        CHECK.due("deep within of another SECRET", t.same(4, 5), 0);
    }

    private static void madeTheFirstTimeOnly() {
        for (Calls.Target target : Calls.targets()) {
            boolean isSecret = target.sort() == 1;
            TermSpread t = Sample.fresh();
            int made = t.count(0);
            target.call().on(t, 30);
            CHECK.due(target.name() + " the first time", t.count(0) - made, target.madeAtFirst());
            made = t.count(0);
            target.call().on(t, 31);
            CHECK.due(target.name() + " the second time", t.count(0) - made, isSecret ? 1 : 0);
            made = t.count(0);
            target.call().on(t, 64);
            CHECK.due(target.name() + " refused", t.count(0) - made, 0);
        }
    }

    private static void madeThoughLost() {
        TermSpread t = Sample.withSecrets(1);
        t.face(1, 0);
        t.mix(2, 0, 1, -1);
        t.secret(0);
        t.row(1, 1);
        CHECK.due("terms that stand in no register", t.count(0), 5);
        CHECK.due("a lost one comes back", t.part(3, 2, 8), 1);
        CHECK.due("and is not MADE again", t.count(0), 5);
        t.row(2, 1);
        t.mix(2, 0, 3, -1);
        CHECK.due("nor is one that was lost and is made again", t.count(0), 5);
    }

    private static void publicIsMadeByFaceAlone() {
        List<ToIntFunction<TermSpread>> others = List.of(
            t -> t.shared(9, 0, 1), t -> t.signed(9, 0, 1), t -> t.mix(9, 0, 0, -1), t -> t.give(0));
        for (ToIntFunction<TermSpread> other : others) {
            TermSpread t = Sample.withSecrets(2);
            CHECK.due("two SECRETS", t.count(0), 2);
            other.applyAsInt(t);
            int made = t.count(0);
            t.face(2, 0);
            CHECK.due("PUBLIC the first time", t.count(0) - made, 1);
            t.face(3, 0);
            CHECK.due("PUBLIC the second time", t.count(0) - made, 1);
            t.face(3, 1);
            CHECK.due("PUBLIC of another one", t.count(0) - made, 2);
        }
    }
}
