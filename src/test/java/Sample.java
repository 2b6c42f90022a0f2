import java.util.stream.IntStream;

/** An object with one term of each sort, and all that can be seen of an object through its face. */
final class Sample {
    /** In the registers 1 .. 7 stands the sort of that number, as about tells it. */
    static final int SECRET = 1;
    static final int PUBLIC = 2;
    static final int SHARED = 3;
    static final int MIX = 4;
    static final int SEALED = 5;
    static final int SIGNED = 6;
    static final int ROW = 7;
    static final int OTHER_SECRET = 8;
    /** A register with a SECRET that nothing else is made of: a refused call must not write over it. */
    static final int TARGET = 9;
    static final int EMPTY = 40;
    static final int LOW = Integer.MIN_VALUE;
    static final int HIGH = Integer.MAX_VALUE;

    private static final int SCRATCH = 20;

    private Sample() {
    }

    /** The registers 0 and 10 .. 63 are empty; the PUBLIC is GIVEN. */
    static TermSpread fresh() {
        TermSpread t = new TermSpread();
        t.secret(OTHER_SECRET);
        t.secret(SECRET);
        t.face(PUBLIC, SECRET);
        t.shared(SHARED, OTHER_SECRET, SECRET);
        t.mix(MIX, 6, PUBLIC, -1);
        t.sealed(SEALED, MIX, PUBLIC, SHARED);
        t.signed(SIGNED, SECRET, SEALED);
        t.row(ROW, 4);
        t.swap(ROW, ROW, 0, SHARED);
        t.alter(ROW, ROW, 3, -7);
        t.secret(TARGET);
        t.give(PUBLIC);
        return t;
    }

    static TermSpread withSecrets(int n) {
        TermSpread t = new TermSpread();
        for (int x = 0; x < n; x++) {
            t.secret(x);
        }
        return t;
    }

    /** A MIX of the term is MADE by that, too. */
    static void copy(TermSpread t, int from, int to) {
        t.mix(to, 9, from, -1);
        t.part(to, to, 8);
    }

    /** All that is seen of fresh() and what a call or two made of it, in some 350 calls; the object is used up then. */
    static String stateOf(TermSpread t) {
        StringBuilder state = new StringBuilder();
        state.append("counts ").append(t.count(0)).append(' ').append(t.count(1));
        for (int x = 0; x < 64; x++) {
            state.append("\nregister ").append(x).append(':');
            for (int what = 0; what < (t.about(x, 0) == -1 ? 1 : 6); what++) {
                state.append(' ').append(t.about(x, what));
            }
            state.append(" derived ").append(t.derived(x)).append(" good ").append(t.good(x));
        }
        for (int what = 0; what < 10; what++) {
            int whole = what < 4 ? ROW : what < 7 ? SEALED : what < 8 ? SIGNED : MIX;
            state.append("\npart ").append(what).append(": ").append(t.part(SCRATCH, whole, what));
            for (int x = SECRET; x <= SHARED; x++) {
                state.append(' ').append(t.same(SCRATCH, x));
            }
        }
        state.append("\nSECRETS ").append(t.same(SECRET, TARGET)).append(t.same(OTHER_SECRET, TARGET));
        t.face(SCRATCH, TARGET);
        return state.append("\nat the end ").append(t.count(0)).append(' ').append(t.count(1)).toString();
    }

    /** What is just outside of least .. most, far outside, and inside again if some of its bits were lost. */
    static int[] outside(int least, int most) {
        IntStream all = IntStream.of(LOW, HIGH, least - 1, most + 1, -1 - most, least + 64, least - 64, least + 128,
            least + 256, least - 256, most + 256, least + 65536, most - 65536, least + LOW, most + LOW);
        return all.filter(v -> v < least || v > most).distinct().toArray();
    }

    static int[] noRegisters() {
        return outside(0, 63);
    }

    /** No such registers, but that one if the sign or some bits were lost; -1 may stand for NOTHING. */
    static int[] mistakenFor(int register) {
        return IntStream.of(-register, -1 - register, register + 64, register - 64, register + 128, register - 128,
            register + 256, register + 65536, register + LOW).filter(x -> x != -1).toArray();
    }

    /** In some places -1 stands for NOTHING. */
    static int[] noRegistersNorNothing() {
        return IntStream.of(noRegisters()).filter(x -> x != -1).toArray();
    }
}
