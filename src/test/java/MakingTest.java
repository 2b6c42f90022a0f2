/** Promises 1 to 8: a new object, and the terms that are no ROW. */
public final class MakingTest {
    private static final Check CHECK = new Check();

    public static void main(String[] args) {
        newObjectHasNoTerms();
        secretsAllDiffer();
        faceIsMadeOncePerSecret();
        sharedHasNoOrder();
        agreedIsShared();
        mixDependsOnAllItIsMadeOf();
        mixTakesNothingSecondOnly();
        sealedDependsOnAllItIsMadeOf();
        signedNeedsASecret();
        registerLosesTheTermBefore();
        registersMayBeTheSame();
        CHECK.end();
    }

    private static TermSpread withSecrets(int n) {
        TermSpread t = new TermSpread();
        for (int i = 0; i < n; i++) {
            CHECK.due("secret(" + i + ")", t.secret(i), 1);
        }
        return t;
    }

    private static void newObjectHasNoTerms() {
        TermSpread t = new TermSpread();
        CHECK.due("new: count(0)", t.count(0), 0);
        CHECK.due("new: count(1)", t.count(1), 0);
        for (int i = 0; i < 64; i++) {
            CHECK.due("new: about(" + i + ", 0)", t.about(i, 0), -1);
            CHECK.due("new: derived(" + i + ")", t.derived(i), -1);
        }
        TermSpread other = new TermSpread();
        t.secret(0);
        CHECK.due("objects share nothing", other.count(0), 0);
        CHECK.due("objects share no register", other.about(0, 0), -1);
        CHECK.due("NONE", TermSpread.NONE, -1);
    }

    private static void secretsAllDiffer() {
        TermSpread t = withSecrets(2);
        CHECK.due("two secrets", t.same(0, 1), 0);
        CHECK.due("secret: sort", t.about(0, 0), 1);
        CHECK.due("secret in the last register", t.secret(63), 1);
        CHECK.due("secret again in 0", t.secret(0), 1);
        CHECK.due("secrets: count(0)", t.count(0), 4);
        CHECK.due("secrets: count(1)", t.count(1), 0);
        CHECK.due("secret(-1)", t.secret(-1), -1);
        CHECK.due("secret(64)", t.secret(64), -1);
        CHECK.due("refused secrets are not MADE", t.count(0), 4);
    }

    private static void faceIsMadeOncePerSecret() {
        TermSpread t = withSecrets(2);
        CHECK.due("PUBLIC is not MADE with its SECRET", t.count(0), 2);
        CHECK.due("face(2, 0)", t.face(2, 0), 1);
        CHECK.due("face(3, 0)", t.face(3, 0), 1);
        CHECK.due("face(4, 1)", t.face(4, 1), 1);
        CHECK.due("face: sort", t.about(2, 0), 2);
        CHECK.due("PUBLIC twice is the same", t.same(2, 3), 1);
        CHECK.due("PUBLIC of another SECRET", t.same(2, 4), 0);
        CHECK.due("PUBLIC is not its SECRET", t.same(2, 0), 0);
        CHECK.due("faces: count(0)", t.count(0), 4);
        CHECK.due("face of a PUBLIC", t.face(5, 2), -1);
        CHECK.due("face of an empty register", t.face(5, 9), -1);
        CHECK.due("a refused face leaves the register empty", t.about(5, 0), -1);
    }

    private static void sharedHasNoOrder() {
        TermSpread t = withSecrets(3);
        CHECK.due("shared(3, 0, 1)", t.shared(3, 0, 1), 1);
        CHECK.due("shared(4, 1, 0)", t.shared(4, 1, 0), 1);
        CHECK.due("shared(5, 2, 1)", t.shared(5, 2, 1), 1);
        CHECK.due("shared(6, 2, 2)", t.shared(6, 2, 2), 1);
        CHECK.due("shared: sort", t.about(3, 0), 3);
        CHECK.due("shared either way", t.same(3, 4), 1);
        CHECK.due("shared with another", t.same(3, 5), 0);
        CHECK.due("shared with itself", t.same(5, 6), 0);
        CHECK.due("shared: count(0)", t.count(0), 6);
        t.face(7, 0);
        CHECK.due("shared of a PUBLIC", t.shared(8, 7, 1), -1);
        CHECK.due("shared with a PUBLIC", t.shared(8, 1, 7), -1);
        CHECK.due("shared with an empty one", t.shared(8, 1, 20), -1);
    }

    private static void agreedIsShared() {
        TermSpread t = withSecrets(2);
        t.face(2, 0);
        t.face(3, 1);
        CHECK.due("agreed(4, 0, 3)", t.agreed(4, 0, 3), 1);
        CHECK.due("agreed(5, 1, 2)", t.agreed(5, 1, 2), 1);
        CHECK.due("agreed: sort", t.about(4, 0), 3);
        CHECK.due("both sides agree", t.same(4, 5), 1);
        CHECK.due("shared(6, 1, 0)", t.shared(6, 1, 0), 1);
        CHECK.due("agreed is shared", t.same(4, 6), 1);
        CHECK.due("agreed with oneself", t.agreed(7, 0, 2), 1);
        CHECK.due("shared with oneself", t.shared(8, 0, 0), 1);
        CHECK.due("both with oneself", t.same(7, 8), 1);
        CHECK.due("agreed: count(0)", t.count(0), 6);
        CHECK.due("agreed of two SECRETS", t.agreed(9, 0, 1), -1);
        CHECK.due("agreed of two PUBLIC", t.agreed(9, 2, 3), -1);
        CHECK.due("agreed the wrong way round", t.agreed(9, 3, 0), -1);
    }

    private static void mixDependsOnAllItIsMadeOf() {
        TermSpread t = withSecrets(2);
        CHECK.due("mix(2, 0, 0, 1)", t.mix(2, 0, 0, 1), 1);
        CHECK.due("mix(3, 9, 0, 1)", t.mix(3, 9, 0, 1), 1);
        CHECK.due("mix(4, 0, 1, 0)", t.mix(4, 0, 1, 0), 1);
        CHECK.due("mix(5, 0, 0, 1)", t.mix(5, 0, 0, 1), 1);
        CHECK.due("mix: sort", t.about(3, 0), 4);
        CHECK.due("mix: n 9", t.about(3, 1), 9);
        CHECK.due("mix: n 0", t.about(2, 1), 0);
        CHECK.due("mix of another n", t.same(2, 3), 0);
        CHECK.due("mix in another order", t.same(2, 4), 0);
        CHECK.due("mix made alike", t.same(2, 5), 1);
        CHECK.due("mix: count(0)", t.count(0), 5);
        CHECK.due("mix n -1", t.mix(6, -1, 0, 1), -1);
        CHECK.due("mix n 10", t.mix(6, 10, 0, 1), -1);
    }

    private static void mixTakesNothingSecondOnly() {
        TermSpread t = withSecrets(1);
        CHECK.due("mix(1, 3, 0, -1)", t.mix(1, 3, 0, -1), 1);
        CHECK.due("mix(2, 3, 0, 0)", t.mix(2, 3, 0, 0), 1);
        CHECK.due("NOTHING is no term", t.same(1, 2), 0);
        CHECK.due("mix x -1", t.mix(3, 3, -1, 0), -1);
        CHECK.due("mix y -2", t.mix(3, 3, 0, -2), -1);
        CHECK.due("mix y 64", t.mix(3, 3, 0, 64), -1);
        CHECK.due("mix y empty", t.mix(3, 3, 0, 30), -1);
        CHECK.due("mix x empty", t.mix(3, 3, 30, 0), -1);
    }

    private static void sealedDependsOnAllItIsMadeOf() {
        TermSpread t = withSecrets(3);
        CHECK.due("sealed(3, 0, 1, 2)", t.sealed(3, 0, 1, 2), 1);
        CHECK.due("sealed(4, 0, 1, 2)", t.sealed(4, 0, 1, 2), 1);
        CHECK.due("sealed(5, 1, 0, 2)", t.sealed(5, 1, 0, 2), 1);
        CHECK.due("sealed(6, 0, 2, 1)", t.sealed(6, 0, 2, 1), 1);
        CHECK.due("sealed(7, 3, 3, 3)", t.sealed(7, 3, 3, 3), 1);
        CHECK.due("sealed: sort", t.about(3, 0), 5);
        CHECK.due("sealed alike", t.same(3, 4), 1);
        CHECK.due("sealed with another key", t.same(3, 5), 0);
        CHECK.due("sealed with head and body changed", t.same(3, 6), 0);
        CHECK.due("sealed: count(0)", t.count(0), 7);
        CHECK.due("sealed without a key", t.sealed(8, 9, 1, 2), -1);
        CHECK.due("sealed without a head", t.sealed(8, 0, -1, 2), -1);
        CHECK.due("sealed without a body", t.sealed(8, 0, 1, -1), -1);
    }

    private static void signedNeedsASecret() {
        TermSpread t = withSecrets(2);
        t.face(2, 0);
        CHECK.due("signed(3, 0, 2)", t.signed(3, 0, 2), 1);
        CHECK.due("signed(4, 1, 2)", t.signed(4, 1, 2), 1);
        CHECK.due("signed(5, 0, 2)", t.signed(5, 0, 2), 1);
        CHECK.due("signed(6, 0, 0)", t.signed(6, 0, 0), 1);
        CHECK.due("signed: sort", t.about(3, 0), 6);
        CHECK.due("signed by another", t.same(3, 4), 0);
        CHECK.due("signed alike", t.same(3, 5), 1);
        CHECK.due("signed of another m", t.same(3, 6), 0);
        CHECK.due("signed: count(0)", t.count(0), 6);
        CHECK.due("signed by a PUBLIC", t.signed(7, 2, 0), -1);
        CHECK.due("signed of nothing", t.signed(7, 0, -1), -1);
    }

    private static void registerLosesTheTermBefore() {
        TermSpread t = withSecrets(1);
        t.face(1, 0);
        t.secret(0);
        t.face(2, 0);
        CHECK.due("PUBLIC of the SECRET that came after", t.same(1, 2), 0);
        CHECK.due("lost terms stay MADE", t.count(0), 4);
        t.row(0, 4);
        CHECK.due("the ROW stands in the register", t.about(0, 0), 7);
    }

    private static void registersMayBeTheSame() {
        TermSpread t = withSecrets(1);
        CHECK.due("face(0, 0)", t.face(0, 0), 1);
        CHECK.due("face over its SECRET", t.about(0, 0), 2);
        CHECK.due("mix(0, 1, 0, 0)", t.mix(0, 1, 0, 0), 1);
        CHECK.due("mix over its terms", t.about(0, 0), 4);
        CHECK.due("sealed(0, 0, 0, 0)", t.sealed(0, 0, 0, 0), 1);
        CHECK.due("sealed over its terms", t.about(0, 0), 5);
        CHECK.due("overwriting: count(0)", t.count(0), 4);
    }
}
