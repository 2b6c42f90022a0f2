import java.util.Arrays;
import java.util.List;
import java.util.Random;
import java.util.function.ToIntFunction;

/** The document's head, and its paragraph on registers: each sentence that names a bound. */
public final class BoundsOfUseTest {
    private static final Check CHECK = new Check();
    private static final int CALLS = 512;
    /** Empty in Sample.fresh(); the first and the last register are among them. */
    private static final int[] FREE = {0, 10, 31, 32, 62, 63};

    public static void main(String[] args) {
        CHECK.sentence("whatever the order in which terms are made and given");
        orderOfMakingAndGivingIsFree();

        CHECK.sentence("An object is used for at most 512 calls after it has been made");
        everyCallMakesATerm();
        everyCallButTheLastMakesATerm();
        everyCallButTheLastIsRefused();
        theFirstTermIsKnownToTheLast();
        termsOfEverySortAreKnownToTheLast();
        boxesOpenOneByOne();
        theLongestChainInOneGive();
        everyObjectHasItsOwnCalls();

        CHECK.sentence("what later calls answer is free");
        laterCallsEnd();

        CHECK.sentence("Registers are 0 .. 63");
        everyRegisterTakesATerm();
        everyRegisterHandsOutItsTerm();
        registersAreApart();

        CHECK.sentence("empty at first");
        registersAreEmptyAtFirst();

        CHECK.sentence("a register that gets a term loses the one before");
        theTermBeforeIsLost();
        theTermBeforeMayBePartOfTheNew();
        theTermBeforeMayBeTheSame();

        CHECK.sentence("NONE, and nothing changes: no such register");
        noSuchRegisterToPutInto();
        noSuchRegisterToTakeFrom();

        CHECK.sentence("NONE, and nothing changes: an empty one where a term is wanted");
        emptyRegister();

        CHECK.sentence("NONE, and nothing changes: a term of another sort than told");
        termOfAnotherSort();

        CHECK.sentence("NONE, and nothing changes: or a number out of its range");
        numberOutOfItsRange();
        CHECK.end();
    }

    /** Fifteen calls that make terms and give them, and which of them have to come before each one. */
    private static final List<ToIntFunction<TermSpread>> STEPS = List.of(
        t -> t.secret(0), t -> t.secret(1), t -> t.secret(2), t -> t.secret(3), t -> t.row(4, 6),
        t -> t.face(5, 1), t -> t.shared(6, 0, 1), t -> t.mix(7, 3, 6, -1), t -> t.sealed(8, 7, 4, 2),
        t -> t.mix(9, 4, 2, 2), t -> t.sealed(10, 9, 4, 3),
        t -> t.give(0), t -> t.give(5), t -> t.give(8), t -> t.give(10));
    private static final int FIRST_GIVE = 11;
    private static final int[][] BEFORE = {
        {}, {}, {}, {}, {}, {1}, {0, 1}, {6}, {7, 4, 2}, {2}, {9, 4, 3}, {0}, {5}, {8}, {10}
    };

    private static void orderOfMakingAndGivingIsFree() {
        for (int run = 0; run < 500; run++) {
            Random random = new Random(run);
            TermSpread t = new TermSpread();
            boolean[] done = new boolean[STEPS.size()];
            for (int i = 0; i < done.length; i++) {
                int step = random.nextInt(done.length);
                while (done[step] || !areDone(done, BEFORE[step])) {
                    step = (step + 1) % done.length;
                }
                done[step] = true;
                int derived = t.count(1);
                int answer = STEPS.get(step).applyAsInt(t);
                CHECK.due("run " + run + ", step " + step, answer, step < FIRST_GIVE ? 1 : t.count(1) - derived);
            }
            CHECK.due("run " + run + ": what the last box hides", t.derived(3), 1);
            CHECK.due("run " + run + ": a SECRET of which the PUBLIC was given", t.derived(1), 0);
            CHECK.due("run " + run + ": MADE", t.count(0), 11);
            CHECK.due("run " + run + ": DERIVED", t.count(1), 10);
        }
    }

    private static boolean areDone(boolean[] done, int[] steps) {
        return Arrays.stream(steps).allMatch(step -> done[step]);
    }

    private static void everyCallMakesATerm() {
        TermSpread t = new TermSpread();
        for (int i = 0; i < CALLS; i++) {
            CHECK.due("secret, call " + i, t.secret(i % 64), 1);
        }
        TermSpread u = new TermSpread();
        u.secret(0);
        for (int i = 1; i < CALLS; i++) {
            CHECK.due("sealed, call " + i, u.sealed(1, 0, 0, i == 1 ? 0 : 1), 1);
        }
    }

    private static void everyCallButTheLastMakesATerm() {
        TermSpread t = new TermSpread();
        for (int i = 0; i < CALLS - 1; i++) {
            t.secret(63);
        }
        CHECK.due("511 SECRETS: count(0)", t.count(0), CALLS - 1);
        TermSpread u = new TermSpread();
        u.row(0, 7);
        for (int i = 1; i < CALLS - 1; i++) {
            u.swap(0, 0, i % 4, 0);
        }
        CHECK.due("511 ROWs of no other term: count(1)", u.count(1), CALLS - 1);
        TermSpread v = new TermSpread();
        v.secret(0);
        for (int i = 1; i < CALLS - 1; i++) {
            v.mix(1, i % 10, i == 1 ? 0 : 1, -1);
        }
        CHECK.due("a SECRET and 510 MIX, each of the one before: give", v.give(0), CALLS - 1);
    }

    private static void everyCallButTheLastIsRefused() {
        TermSpread t = new TermSpread();
        for (int i = 0; i < CALLS - 1; i++) {
            CHECK.due("refused call " + i, i % 2 == 0 ? t.secret(64 + i) : t.give(i % 64), -1);
        }
        CHECK.due("secret as the 512th call", t.secret(0), 1);
        TermSpread u = new TermSpread();
        for (int i = 0; i < CALLS - 1; i++) {
            CHECK.due("call " + i + " makes the same ROW", u.row(i % 64, 3), 1);
        }
        CHECK.due("one ROW is MADE", u.count(0), 1);
    }

    private static void theFirstTermIsKnownToTheLast() {
        TermSpread t = new TermSpread();
        t.row(0, 1);
        for (int i = 1; i <= CALLS - 3; i++) {
            t.alter(1 + i % 60, 0, i % 4, i);
        }
        CHECK.due("the ROW once more", t.row(63, 1), 1);
        CHECK.due("is the first one", t.same(0, 63), 1);
        TermSpread u = new TermSpread();
        u.secret(0);
        for (int i = 1; i <= CALLS - 4; i++) {
            u.secret(1);
        }
        u.shared(2, 0, 1);
        u.shared(3, 1, 0);
        CHECK.due("SHARED of the first and the last SECRET", u.same(2, 3), 1);
    }

    private static void termsOfEverySortAreKnownToTheLast() {
        for (Calls.Target target : Calls.targets()) {
            if (target.sort() != Sample.SECRET) {
                TermSpread t = Sample.fresh();
                target.call().on(t, 30);
                for (int i = 0; i < 490; i++) {
                    t.secret(31);
                }
                int made = t.count(0);
                target.call().on(t, 32);
                CHECK.due(target.name() + " after 490 SECRETS", t.same(30, 32), 1);
                CHECK.due(target.name() + ": MADE", t.count(0), made);
            }
        }
    }

    /** Each box has the one before as its head: opened from the first key on, or from the last one. */
    private static void boxesOpenOneByOne() {
        int boxes = 253;
        for (int way = 0; way < 2; way++) {
            TermSpread t = new TermSpread();
            t.row(4, 1);
            t.secret(0);
            int last = 0;
            for (int i = 0; i < boxes; i++) {
                int next = 1 + i % 2;
                t.secret(next);
                t.sealed(4, way == 0 ? last : next, 4, way == 0 ? next : last);
                last = next;
            }
            CHECK.due("way " + way + ": the boxes, by their heads", t.give(4), boxes);
            CHECK.due("way " + way + ": all keys", t.give(way == 0 ? 0 : last), boxes + 1);
            CHECK.due("way " + way + ": the key at the end", t.derived(way == 0 ? last : 0), 1);
        }
    }

    /** The first key is the head of the first box: 511 terms come of the last call, most of them one by one. */
    private static void theLongestChainInOneGive() {
        TermSpread t = new TermSpread();
        t.secret(0);
        for (int i = 0; i < 255; i++) {
            t.secret(1 + i % 2);
            t.sealed(4, i == 0 ? 0 : 2 - i % 2, i == 0 ? 0 : 4, 1 + i % 2);
        }
        CHECK.due("give as the 512th call", t.give(4), CALLS - 1);
    }

    private static void everyObjectHasItsOwnCalls() {
        TermSpread first = new TermSpread();
        for (int object = 0; object < 100; object++) {
            TermSpread t = new TermSpread();
            for (int i = 0; i < CALLS - 1; i++) {
                t.secret(i % 64);
            }
            CHECK.due("object " + object + ": count(0)", t.count(0), CALLS - 1);
        }
        CHECK.due("the object before: count(0)", first.count(0), 0);
        CHECK.due("the object before: register 0", first.derived(0), -1);
    }

    private static void laterCallsEnd() {
        for (Calls.Target target : Calls.targets()) {
            TermSpread t = Sample.fresh();
            for (int i = 0; i < 3 * CALLS; i++) {
                t.secret(i % 64);
                target.call().on(t, i % 64);
            }
            for (Calls.Source source : Calls.sources()) {
                source.call().on(t, 5);
            }
            CHECK.holds(target.name() + " ended", true);
        }
    }

    private static void everyRegisterTakesATerm() {
        for (Calls.Target target : Calls.targets()) {
            for (int r = 0; r < 64; r++) {
                TermSpread t = Sample.fresh();
                int made = t.count(0);
                CHECK.due(target.name() + " into " + r, target.call().on(t, r), 1);
                CHECK.due(target.name() + ": sort in " + r, t.about(r, 0), target.sort());
                CHECK.due(target.name() + " into " + r + ": MADE", t.count(0) - made, target.madeAtFirst());
            }
        }
    }

    private static void everyRegisterHandsOutItsTerm() {
        for (Calls.Source source : Calls.sources()) {
            int good = source.goodRegister();
            for (int x : FREE) {
                CHECK.holds(source.name() + " from " + x + " does what it does from " + good,
                    afterCopy(source, good, x, good).equals(afterCopy(source, good, x, x)));
            }
        }
    }

    private static String afterCopy(Calls.Source source, int from, int to, int asked) {
        TermSpread t = Sample.fresh();
        Sample.copy(t, from, to);
        int answer = source.call().on(t, asked);
        CHECK.holds(source.name() + " from " + asked + " is carried out", answer != -1);
        return answer + "\n" + Sample.stateOf(t);
    }

    private static void registersAreApart() {
        TermSpread t = Sample.withSecrets(64);
        for (int x = 0; x < 64; x++) {
            CHECK.due("same(" + x + ", next)", t.same(x, (x + 1) % 64), 0);
        }
        t.face(17, 17);
        for (int x = 0; x < 64; x++) {
            CHECK.due("only one has changed, not " + x, t.about(x, 0), x == 17 ? 2 : 1);
        }
        CHECK.due("give(63)", t.give(63), 1);
        CHECK.due("give(0)", t.give(0), 1);
        for (int x = 0; x < 64; x++) {
            CHECK.due("derived(" + x + ")", t.derived(x), x == 0 || x == 63 ? 1 : 0);
        }
    }

    private static void registersAreEmptyAtFirst() {
        for (Calls.Source source : Calls.sources()) {
            TermSpread t = new TermSpread();
            for (int x = 0; x < 64; x++) {
                CHECK.due(source.name() + " " + x + ", all empty", source.call().on(t, x), -1);
            }
            CHECK.due(source.name() + ": no term is MADE", t.count(0), 0);
            TermSpread u = new TermSpread();
            u.row(13, 1);
            for (int x = 0; x < 64; x++) {
                CHECK.due("about(" + x + ", 0), all empty but 13", u.about(x, 0), x == 13 ? 7 : -1);
            }
        }
    }

    private static void theTermBeforeIsLost() {
        for (Calls.Target target : Calls.targets()) {
            TermSpread t = Sample.fresh();
            Sample.copy(t, Sample.TARGET, 30);
            CHECK.due("the same term stands in both", t.same(30, Sample.TARGET), 1);
            target.call().on(t, Sample.TARGET);
            CHECK.due(target.name() + ": another one stands there", t.same(30, Sample.TARGET), 0);
            CHECK.due(target.name() + ": its sort", t.about(Sample.TARGET, 0), target.sort());
            CHECK.due(target.name() + ": the other register keeps its term", t.about(30, 0), 1);
        }
    }

    private static void theTermBeforeMayBePartOfTheNew() {
        TermSpread t = Sample.withSecrets(2);
        t.face(2, 0);
        t.face(0, 0);
        CHECK.due("face(0, 0)", t.same(0, 2), 1);
        t.agreed(1, 1, 0);
        CHECK.due("agreed over its SECRET", t.about(1, 0), 3);
        t.mix(0, 1, 0, 0);
        t.part(3, 0, 8);
        CHECK.due("mix(0, 1, 0, 0)", t.same(3, 2), 1);
        t.sealed(0, 0, 0, 0);
        t.part(4, 0, 4);
        CHECK.due("sealed(0, 0, 0, 0)", t.about(4, 0), 4);
        t.secret(5);
        t.signed(5, 5, 5);
        CHECK.due("signed(5, 5, 5)", t.about(5, 0), 6);
        t.part(5, 5, 7);
        CHECK.due("part(5, 5, 7)", t.about(5, 0), 1);
        t.row(6, 2);
        t.swap(6, 6, 0, 6);
        CHECK.due("swap(6, 6, 0, 6): a ROW", t.about(6, 0), 7);
        t.part(6, 6, 0);
        CHECK.due("swap(6, 6, 0, 6): in it the ROW before", t.part(7, 6, 0), -1);
        t.shared(5, 5, 5);
        CHECK.due("shared(5, 5, 5)", t.about(5, 0), 3);
    }

    private static void theTermBeforeMayBeTheSame() {
        TermSpread t = Sample.withSecrets(1);
        t.face(1, 0);
        CHECK.due("face(1, 0) again", t.face(1, 0), 1);
        CHECK.due("it stands there", t.about(1, 0), 2);
        t.row(2, 5);
        CHECK.due("alter to what it is", t.alter(2, 2, 0, 0), 1);
        CHECK.due("alter to the KIND that it is", t.alter(2, 2, 4, 5), 1);
        CHECK.due("swap NOTHING for NOTHING", t.swap(2, 2, 3, -1), 1);
        CHECK.due("nothing is MADE by that", t.count(0), 3);
    }

    private static void refused(String call, ToIntFunction<TermSpread> wrong) {
        TermSpread t = Sample.fresh();
        CHECK.due(call, wrong.applyAsInt(t), -1);
        CHECK.holds("nothing changes by " + call, Sample.stateOf(t).equals(Sample.stateOf(Sample.fresh())));
    }

    private static void noSuchRegisterToPutInto() {
        for (Calls.Target target : Calls.targets()) {
            for (int r : Sample.noRegisters()) {
                refused(target.name() + " into " + r, t -> target.call().on(t, r));
            }
            TermSpread t = Sample.fresh();
            int made = t.count(0);
            target.call().on(t, 64);
            target.call().on(t, 0);
            CHECK.due(target.name() + ": MADE by the call that was not refused", t.count(0) - made,
                target.madeAtFirst());
        }
    }

    private static void noSuchRegisterToTakeFrom() {
        for (Calls.Source source : Calls.sources()) {
            for (int x : source.takesNothing() ? Sample.noRegistersNorNothing() : Sample.noRegisters()) {
                refused(source.name() + " " + x, t -> source.call().on(t, x));
            }
            for (int x : Sample.mistakenFor(source.goodRegister())) {
                refused(source.name() + " " + x, t -> source.call().on(t, x));
            }
        }
        for (int x : Sample.noRegisters()) {
            refused("same(" + x + ", " + x + ")", t -> t.same(x, x));
        }
    }

    private static void emptyRegister() {
        for (Calls.Source source : Calls.sources()) {
            for (int x : new int[] {0, Sample.EMPTY, 63}) {
                refused(source.name() + " " + x + ", empty", t -> source.call().on(t, x));
            }
        }
        refused("same of one empty register", t -> t.same(Sample.EMPTY, Sample.EMPTY));
        refused("same of two empty registers", t -> t.same(0, 63));
    }

    private static void termOfAnotherSort() {
        for (Calls.Source source : Calls.sources()) {
            for (int x = 1; x <= 7; x++) {
                int sort = x;
                if (source.sort() != 0 && source.sort() != sort) {
                    refused(source.name() + " of sort " + sort, t -> source.call().on(t, sort));
                } else {
                    CHECK.holds(source.name() + " of sort " + sort, source.call().on(Sample.fresh(), sort) >= 0);
                }
            }
        }
    }

    private static void numberOutOfItsRange() {
        int r = Sample.TARGET;
        for (int v : Sample.outside(0, 9)) {
            refused("mix n " + v, t -> t.mix(r, v, Sample.SECRET, Sample.ROW));
            for (int x = 1; x <= 7; x++) {
                int whole = x;
                refused("part what " + v + " of sort " + x, t -> t.part(r, whole, v));
            }
        }
        for (int v : Sample.outside(1, 7)) {
            refused("row of KIND " + v, t -> t.row(r, v));
            refused("alter to KIND " + v, t -> t.alter(r, Sample.ROW, 4, v));
        }
        for (int v : Sample.outside(0, 4)) {
            refused("alter k " + v, t -> t.alter(r, Sample.ROW, v, 1));
        }
        for (int v : Sample.outside(0, 3)) {
            refused("swap k " + v, t -> t.swap(r, Sample.ROW, v, Sample.SECRET));
            refused("swap k " + v + " to NOTHING", t -> t.swap(r, Sample.ROW, v, -1));
        }
        for (int v : Sample.outside(0, 5)) {
            for (int x = 1; x <= 7; x++) {
                int about = x;
                refused("about(" + x + ", " + v + ")", t -> t.about(about, v));
            }
        }
        for (int v : Sample.outside(0, 1)) {
            refused("count(" + v + ")", t -> t.count(v));
        }
    }
}
