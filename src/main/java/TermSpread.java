/**
 * Terms of sealed mail, made in registers, and what an attacker derives of those that it was given.
 *
 * Each term is held once, however often it is made: two registers have the same term exactly if they
 * refer to the same Term.
 */
public final class TermSpread {
    public static final int NONE = -1;

    private static final int REGISTERS = 64;
    /** An object is used for 512 calls at most, and no call makes more than one term. */
    private static final int MOST_TERMS = 512;
    /** How many numbers and how many terms a ROW has; no other sort of term is made of more terms. */
    private static final int SLOTS = 4;
    /** What a caller writes in place of a register where NOTHING may stand. */
    private static final int NO_REGISTER = -1;

    private static final int SECRET = 1;
    private static final int PUBLIC = 2;
    private static final int SHARED = 3;
    private static final int MIX = 4;
    private static final int SEALED = 5;
    private static final int SIGNED = 6;
    private static final int ROW = 7;

    private static final int SEALED_KEY = 0;
    private static final int SEALED_HEAD = 1;
    private static final int SEALED_BODY = 2;
    private static final int SIGNED_TEXT = 1;

    private static final int MOST_MIX = 9;
    private static final int MOST_KIND = 7;
    /** The place behind a ROW's numbers, by which alter names the KIND. */
    private static final int KIND_PLACE = 4;

    /** For each "what" of part: the sort of term that has such a part, and the slot where it stands. */
    private static final int[] PART_SORTS = {ROW, ROW, ROW, ROW, SEALED, SEALED, SEALED, SIGNED, MIX, MIX};
    private static final int[] PART_SLOTS = {0, 1, 2, 3, SEALED_KEY, SEALED_HEAD, SEALED_BODY, SIGNED_TEXT, 0, 1};

    private static final int LOW = -2147483648;
    private static final int HIGH = 2147483647;
    private static final int DEVICE = 5;
    private static final int GROUP = 3;

    /** A line for each KIND from 1 on: between what bounds the four numbers of a GOOD ROW are. */
    private static final int[] LEAST_NUMBERS = {
        0, LOW, 0, 0,
        0, LOW, 0, 0,
        0, 0, 0, 0,
        0, 0, 0, 0,
        0, 1, 0, 0,
        0, 1, 0, 0,
        0, 0, 1, 0
    };
    private static final int[] MOST_NUMBERS = {
        DEVICE, HIGH, 0, 0,
        DEVICE, HIGH, 0, 0,
        DEVICE, DEVICE, 9999, 9999,
        0, 0, 0, 0,
        GROUP, HIGH, 9999, 0,
        GROUP, HIGH, 63, 0,
        GROUP, DEVICE, HIGH, 9999
    };

    private static final int EMPTY = 0;
    private static final int ANY_TERM = 1;
    private static final int A_PUBLIC = 2;
    private static final int PUBLIC_OR_EMPTY = 3;

    /** A line for each KIND from 1 on: what the four terms of a GOOD ROW are. */
    private static final int[] WANTED_TERMS = {
        A_PUBLIC, EMPTY, EMPTY, EMPTY,
        A_PUBLIC, EMPTY, EMPTY, EMPTY,
        A_PUBLIC, A_PUBLIC, PUBLIC_OR_EMPTY, PUBLIC_OR_EMPTY,
        ANY_TERM, EMPTY, EMPTY, EMPTY,
        ANY_TERM, A_PUBLIC, EMPTY, EMPTY,
        EMPTY, EMPTY, EMPTY, EMPTY,
        EMPTY, EMPTY, EMPTY, EMPTY
    };

    private final Term[] registers;
    /** The terms that are MADE, in the order of their making: a term stands behind all its parts. */
    private final Term[] made;
    private int madeCount;
    private int derivedCount;
    /** The numbers of every term that is no ROW, and of a new ROW; never written. */
    private final int[] zeros;

    public TermSpread() {
        registers = new Term[REGISTERS];
        made = new Term[MOST_TERMS];
        madeCount = 0;
        derivedCount = 0;
        zeros = new int[SLOTS];
    }

    public int secret(int r) {
        return makeInto(r, plainTerm(SECRET, 0, null, null, null));
    }

    public int face(int r, int x) {
        Term s = termOfSort(x, SECRET);
        if (s == null) {
            return NONE;
        }
        return makeInto(r, plainTerm(PUBLIC, 0, s, null, null));
    }

    public int shared(int r, int x, int y) {
        return makeSharedInto(r, termOfSort(x, SECRET), termOfSort(y, SECRET));
    }

    public int agreed(int r, int x, int y) {
        Term other = termOfSort(y, PUBLIC);
        if (other == null) {
            return NONE;
        }
        return makeSharedInto(r, termOfSort(x, SECRET), other.partAt(0));
    }

    public int mix(int r, int n, int x, int y) {
        Term first = termIn(x);
        if (n < 0 || n > MOST_MIX || first == null || !isTermOrNothing(y)) {
            return NONE;
        }
        return makeInto(r, plainTerm(MIX, n, first, termIn(y), null));
    }

    public int sealed(int r, int k, int h, int b) {
        Term key = termIn(k);
        Term head = termIn(h);
        Term body = termIn(b);
        if (key == null || head == null || body == null) {
            return NONE;
        }
        return makeInto(r, plainTerm(SEALED, 0, key, head, body));
    }

    public int signed(int r, int x, int y) {
        Term s = termOfSort(x, SECRET);
        Term text = termIn(y);
        if (s == null || text == null) {
            return NONE;
        }
        return makeInto(r, plainTerm(SIGNED, 0, s, text, null));
    }

    public int row(int r, int kind) {
        if (!isKind(kind)) {
            return NONE;
        }
        return makeInto(r, plainTerm(ROW, kind, null, null, null));
    }

    public int alter(int r, int x, int k, int v) {
        Term old = termOfSort(x, ROW);
        if (old == null) {
            return NONE;
        }
        if (isSlot(k)) {
            return makeInto(r, old.withNumber(k, v));
        }
        if (k == KIND_PLACE && isKind(v)) {
            return makeInto(r, old.withLabel(v));
        }
        return NONE;
    }

    public int swap(int r, int x, int k, int y) {
        Term old = termOfSort(x, ROW);
        if (old == null || !isSlot(k) || !isTermOrNothing(y)) {
            return NONE;
        }
        return makeInto(r, old.withPart(k, termIn(y)));
    }

    public int part(int r, int x, int what) {
        Term whole = termIn(x);
        if (whole == null || what < 0 || what >= PART_SORTS.length || what >= PART_SLOTS.length) {
            return NONE;
        }
        if (whole.sort != PART_SORTS[what]) {
            return NONE;
        }
        return putInto(r, whole.partAt(PART_SLOTS[what]));
    }

    public int give(int x) {
        Term given = termIn(x);
        if (given == null) {
            return NONE;
        }
        if (given.isDerived) {
            return 0;
        }
        int before = derivedCount;
        derive(given);
        spread();
        return derivedCount - before;
    }

    public int derived(int x) {
        Term term = termIn(x);
        if (term == null) {
            return NONE;
        }
        return term.isDerived ? 1 : 0;
    }

    public int same(int x, int y) {
        Term first = termIn(x);
        Term second = termIn(y);
        if (first == null || second == null) {
            return NONE;
        }
        return first == second ? 1 : 0;
    }

    public int good(int x) {
        Term term = termOfSort(x, ROW);
        if (term == null) {
            return NONE;
        }
        return hasGoodNumbers(term) && hasGoodTerms(term) ? 1 : 0;
    }

    public int about(int x, int what) {
        Term term = termIn(x);
        if (term == null) {
            return NONE;
        }
        if (what == 0) {
            return term.sort;
        }
        if (what == 1) {
            return term.label;
        }
        return isSlot(what - 2) ? term.numberAt(what - 2) : NONE;
    }

    public int count(int what) {
        if (what == 0) {
            return madeCount;
        }
        return what == 1 ? derivedCount : NONE;
    }

    private static boolean isRegister(int x) {
        return x >= 0 && x < REGISTERS;
    }

    private static boolean isSlot(int k) {
        return k >= 0 && k < SLOTS;
    }

    private static boolean isKind(int v) {
        return v >= 1 && v <= MOST_KIND;
    }

    /** The term in a register; null if there is no such register or it is empty. */
    private Term termIn(int x) {
        return isRegister(x) ? registers[x] : null;
    }

    private Term termOfSort(int x, int sort) {
        Term term = termIn(x);
        return term != null && term.sort == sort ? term : null;
    }

    private boolean isTermOrNothing(int y) {
        return y == NO_REGISTER || termIn(y) != null;
    }

    private Term plainTerm(int sort, int label, Term first, Term second, Term third) {
        Term[] parts = {first, second, third, null};
        return new Term(sort, label, zeros, parts);
    }

    /** SHARED has no order, so the SECRET that was MADE first always stands first. */
    private int makeSharedInto(int r, Term s, Term t) {
        if (s == null || t == null) {
            return NONE;
        }
        boolean inOrder = s.place <= t.place;
        return makeInto(r, plainTerm(SHARED, 0, inOrder ? s : t, inOrder ? t : s, null));
    }

    private int makeInto(int r, Term wanted) {
        if (!isRegister(r)) {
            return NONE;
        }
        Term known = findLike(wanted);
        return putInto(r, known != null ? known : keep(wanted));
    }

    private int putInto(int r, Term term) {
        if (!isRegister(r) || term == null) {
            return NONE;
        }
        registers[r] = term;
        return 1;
    }

    private Term findLike(Term wanted) {
        for (int i = 0; i < madeCount && i < made.length; i++) {
            Term term = made[i];
            if (term != null && term.isMadeLike(wanted)) {
                return term;
            }
        }
        return null;
    }

    /**
     * Takes a new term among those that are MADE; null if there is no room, which only calls after the
     * 512th can meet. Nothing but the new term itself can be newly counted as DERIVED by this: the
     * attacker could have made it before, too, and so all that follows from it is DERIVED already.
     */
    private Term keep(Term fresh) {
        if (madeCount < 0 || madeCount >= made.length) {
            return null;
        }
        fresh.place = madeCount;
        made[madeCount] = fresh;
        madeCount++;
        if (fresh.canBeMadeByAttacker()) {
            derive(fresh);
        }
        return fresh;
    }

    private void derive(Term term) {
        if (term == null || term.isDerived) {
            return;
        }
        term.isDerived = true;
        derivedCount++;
        Term owner = term.sort == PUBLIC ? term.partAt(0) : term;
        if (owner != null && owner.sort == SECRET) {
            owner.isFaceDerived = true;
        }
    }

    /**
     * Applies the rules until nothing comes of them. Parts stand before their wholes, so taking apart
     * goes down and putting together goes up: a long chain of either is done in a single pass. Each pass
     * but the last one derives a term, so there are no more passes than terms, and one.
     */
    private void spread() {
        boolean more = true;
        for (int pass = 0; more && pass <= MOST_TERMS; pass++) {
            int before = derivedCount;
            takeAllApart();
            putAllTogether();
            more = derivedCount > before;
        }
    }

    private void takeAllApart() {
        for (int i = Math.min(madeCount, made.length) - 1; i >= 0; i--) {
            Term term = made[i];
            if (term != null && term.isDerived) {
                takeApart(term);
            }
        }
    }

    private void putAllTogether() {
        for (int i = 0; i < madeCount && i < made.length; i++) {
            Term term = made[i];
            if (term != null && !term.isDerived && term.canBeMadeByAttacker()) {
                derive(term);
            }
        }
    }

    private void takeApart(Term term) {
        if (term.sort == ROW) {
            for (int k = 0; k < SLOTS; k++) {
                derive(term.partAt(k));
            }
        } else if (term.sort == SEALED) {
            derive(term.partAt(SEALED_HEAD));
            if (term.isPartIn(SEALED_KEY)) {
                derive(term.partAt(SEALED_BODY));
            }
        } else if (term.sort == SIGNED) {
            derive(term.partAt(SIGNED_TEXT));
        }
    }

    private static boolean hasGoodNumbers(Term term) {
        for (int k = 0; k < SLOTS; k++) {
            int at = placeInTable(term.label, k);
            if (at < 0 || at >= LEAST_NUMBERS.length || at >= MOST_NUMBERS.length) {
                return false;
            }
            int number = term.numberAt(k);
            if (number < LEAST_NUMBERS[at] || number > MOST_NUMBERS[at]) {
                return false;
            }
        }
        return true;
    }

    private static boolean hasGoodTerms(Term term) {
        boolean isGapOpen = false;
        for (int k = 0; k < SLOTS; k++) {
            int at = placeInTable(term.label, k);
            if (at < 0 || at >= WANTED_TERMS.length) {
                return false;
            }
            Term found = term.partAt(k);
            // Behind an optional term that is left out, the next one may not stand.
            if (!fits(found, WANTED_TERMS[at]) || isGapOpen && found != null) {
                return false;
            }
            isGapOpen = found == null;
        }
        return true;
    }

    private static int placeInTable(int kind, int slot) {
        return (kind - 1) * SLOTS + slot;
    }

    private static boolean fits(Term found, int wanted) {
        if (found == null) {
            return wanted == EMPTY || wanted == PUBLIC_OR_EMPTY;
        }
        return wanted == ANY_TERM || wanted != EMPTY && found.sort == PUBLIC;
    }

    /**
     * A term: its sort, the n of a MIX or the KIND of a ROW (the label), the numbers of a ROW, and the
     * terms that it is made of, null where NOTHING stands. How it is made never changes.
     */
    private static final class Term {
        final int sort;
        final int label;
        final int[] numbers;
        final Term[] parts;
        /** How many terms were MADE before this one. */
        int place;
        boolean isDerived;
        /** Of a SECRET: whether its PUBLIC is DERIVED, MADE or not. */
        boolean isFaceDerived;

        Term(int sort, int label, int[] numbers, Term[] parts) {
            this.sort = sort;
            this.label = label;
            this.numbers = numbers;
            this.parts = parts;
            this.place = 0;
            this.isDerived = false;
            this.isFaceDerived = false;
        }

        int numberAt(int k) {
            return k >= 0 && k < numbers.length ? numbers[k] : 0;
        }

        Term partAt(int k) {
            return k >= 0 && k < parts.length ? parts[k] : null;
        }

        Term withLabel(int newLabel) {
            return new Term(sort, newLabel, numbers, parts);
        }

        Term withNumber(int k, int v) {
            int[] changed = new int[SLOTS];
            for (int i = 0; i < SLOTS; i++) {
                changed[i] = i == k ? v : numberAt(i);
            }
            return new Term(sort, label, changed, parts);
        }

        Term withPart(int k, Term part) {
            Term[] changed = new Term[SLOTS];
            for (int i = 0; i < SLOTS; i++) {
                changed[i] = i == k ? part : partAt(i);
            }
            return new Term(sort, label, numbers, changed);
        }

        boolean isMadeLike(Term other) {
            // Each SECRET is another one, though all are made of nothing.
            if (sort == SECRET || sort != other.sort || label != other.label) {
                return false;
            }
            for (int i = 0; i < SLOTS; i++) {
                if (partAt(i) != other.partAt(i) || numberAt(i) != other.numberAt(i)) {
                    return false;
                }
            }
            return true;
        }

        /** NOTHING counts as in what is DERIVED. */
        boolean isPartIn(int k) {
            Term part = partAt(k);
            return part == null || part.isDerived;
        }

        boolean canBeMadeByAttacker() {
            if (sort == SECRET) {
                return false;
            }
            if (sort == SHARED) {
                return canAgree(partAt(0), partAt(1)) || canAgree(partAt(1), partAt(0));
            }
            for (int i = 0; i < SLOTS; i++) {
                if (!isPartIn(i)) {
                    return false;
                }
            }
            return true;
        }

        private static boolean canAgree(Term s, Term t) {
            return s != null && t != null && s.isDerived && t.isFaceDerived;
        }
    }
}
