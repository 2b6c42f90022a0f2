import java.util.ArrayList;
import java.util.Arrays;
import java.util.HashMap;
import java.util.HashSet;
import java.util.List;
import java.util.Map;
import java.util.Set;

/**
 * The document once more, as plainly as can be and slow: terms are lists, and DERIVED is worked out anew
 * from all that was GIVEN at each question.
 */
final class Model {
    private static final int NONE = -1;
    private static final int NOTHING = -1;

    private final List<List<Integer>> terms = new ArrayList<>();
    private final Map<List<Integer>, Integer> ids = new HashMap<>();
    private final Set<Integer> made = new HashSet<>();
    private final Set<Integer> given = new HashSet<>();
    private final int[] registers = new int[64];
    private int secrets = 0;

    Model() {
        Arrays.fill(registers, NOTHING);
    }

    /** The method of that place in the document's face, with its arguments. */
    int call(int method, int[] a) {
        return switch (method) {
            case 0 -> isRegister(a[0]) ? newSecret(a[0]) : NONE;
            case 1 -> isSort(a[1], 1) ? make(a[0], 2, id(a[1])) : NONE;
            case 2 -> isSort(a[1], 1) && isSort(a[2], 1) ? makeShared(a[0], id(a[1]), id(a[2])) : NONE;
            case 3 -> isSort(a[1], 1) && isSort(a[2], 2)
                ? makeShared(a[0], id(a[1]), terms.get(id(a[2])).get(1)) : NONE;
            case 4 -> a[1] >= 0 && a[1] <= 9 && isFull(a[2]) && isFullOrNothing(a[3])
                ? make(a[0], 4, a[1], id(a[2]), id(a[3])) : NONE;
            case 5 -> isFull(a[1]) && isFull(a[2]) && isFull(a[3])
                ? make(a[0], 5, id(a[1]), id(a[2]), id(a[3])) : NONE;
            case 6 -> isSort(a[1], 1) && isFull(a[2]) ? make(a[0], 6, id(a[1]), id(a[2])) : NONE;
            case 7 -> a[1] >= 1 && a[1] <= 7 ? make(a[0], 7, a[1], 0, 0, 0, 0, -1, -1, -1, -1) : NONE;
            case 8 -> alter(a[0], a[1], a[2], a[3]);
            case 9 -> isSort(a[1], 7) && a[2] >= 0 && a[2] <= 3 && isFullOrNothing(a[3])
                ? makeChanged(a[0], id(a[1]), 6 + a[2], id(a[3])) : NONE;
            case 10 -> part(a[0], a[1], a[2]);
            case 11 -> give(a[0]);
            case 12 -> isFull(a[0]) ? oneIf(allDerived().contains(id(a[0]))) : NONE;
            case 13 -> isFull(a[0]) && isFull(a[1]) ? oneIf(id(a[0]) == id(a[1])) : NONE;
            case 14 -> isSort(a[0], 7) ? oneIf(isGood(terms.get(id(a[0])))) : NONE;
            case 15 -> about(a[0], a[1]);
            default -> a[0] == 0 ? made.size() : a[0] == 1 ? madeAndDerived() : NONE;
        };
    }

    private static int oneIf(boolean is) {
        return is ? 1 : 0;
    }

    private static boolean isRegister(int x) {
        return x >= 0 && x <= 63;
    }

    private boolean isFull(int x) {
        return isRegister(x) && registers[x] != NOTHING;
    }

    private boolean isFullOrNothing(int x) {
        return x == NOTHING || isFull(x);
    }

    private boolean isSort(int x, int sort) {
        return isFull(x) && terms.get(registers[x]).get(0) == sort;
    }

    private int id(int x) {
        return x == NOTHING ? NOTHING : registers[x];
    }

    private int idOf(List<Integer> term) {
        Integer id = ids.get(term);
        if (id == null) {
            id = terms.size();
            ids.put(term, id);
            terms.add(term);
        }
        return id;
    }

    private int put(int r, int id) {
        registers[r] = id;
        made.add(id);
        return 1;
    }

    private int make(int r, Integer... term) {
        return isRegister(r) ? put(r, idOf(Arrays.asList(term))) : NONE;
    }

    private int newSecret(int r) {
        int id = idOf(List.of(1, secrets++));
        // The attacker may use a PUBLIC that is not MADE.
        idOf(List.of(2, id));
        return put(r, id);
    }

    private int makeShared(int r, int s, int t) {
        return make(r, 3, Math.min(s, t), Math.max(s, t));
    }

    private int makeChanged(int r, int id, int at, int v) {
        List<Integer> changed = new ArrayList<>(terms.get(id));
        changed.set(at, v);
        return make(r, changed.toArray(new Integer[0]));
    }

    private int alter(int r, int x, int k, int v) {
        boolean isWrong = !isSort(x, 7) || k < 0 || k > 4 || k == 4 && (v < 1 || v > 7);
        return isWrong ? NONE : makeChanged(r, id(x), k == 4 ? 1 : 2 + k, v);
    }

    private int part(int r, int x, int what) {
        if (!isRegister(r) || !isFull(x)) {
            return NONE;
        }
        List<Integer> term = terms.get(id(x));
        int found = NOTHING;
        if (what >= 0 && what <= 3 && term.get(0) == 7) {
            found = term.get(6 + what);
        } else if (what >= 4 && what <= 6 && term.get(0) == 5) {
            found = term.get(what - 3);
        } else if (what == 7 && term.get(0) == 6) {
            found = term.get(2);
        } else if (what >= 8 && what <= 9 && term.get(0) == 4) {
            found = term.get(what - 6);
        }
        return found == NOTHING ? NONE : put(r, found);
    }

    private int give(int x) {
        if (!isFull(x)) {
            return NONE;
        }
        int before = madeAndDerived();
        given.add(id(x));
        return madeAndDerived() - before;
    }

    private int about(int x, int what) {
        if (!isFull(x) || what < 0 || what > 5) {
            return NONE;
        }
        List<Integer> term = terms.get(id(x));
        int sort = term.get(0);
        if (what == 0) {
            return sort;
        }
        if (what == 1) {
            return sort == 4 || sort == 7 ? term.get(1) : 0;
        }
        return sort == 7 ? term.get(what) : 0;
    }

    private int madeAndDerived() {
        Set<Integer> both = allDerived();
        both.retainAll(made);
        return both.size();
    }

    private Set<Integer> allDerived() {
        Set<Integer> in = new HashSet<>(given);
        in.add(NOTHING);
        int before;
        do {
            before = in.size();
            for (int id = 0; id < terms.size(); id++) {
                if (in.contains(id)) {
                    addParts(in, terms.get(id));
                } else if (isMakeable(in, terms.get(id))) {
                    in.add(id);
                }
            }
        } while (in.size() > before);
        in.remove(NOTHING);
        return in;
    }

    private static void addParts(Set<Integer> in, List<Integer> term) {
        switch (term.get(0)) {
            case 5 -> {
                in.add(term.get(2));
                if (in.contains(term.get(1))) {
                    in.add(term.get(3));
                }
            }
            case 6 -> in.add(term.get(2));
            case 7 -> in.addAll(term.subList(6, 10));
            default -> { }
        }
    }

    private boolean isMakeable(Set<Integer> in, List<Integer> term) {
        return switch (term.get(0)) {
            case 1 -> false;
            case 2 -> in.contains(term.get(1));
            case 3 -> in.contains(term.get(1)) && in.contains(ids.get(List.of(2, term.get(2))))
                || in.contains(term.get(2)) && in.contains(ids.get(List.of(2, term.get(1))));
            case 4 -> in.containsAll(term.subList(2, 4));
            case 5 -> in.containsAll(term.subList(1, 4));
            case 6 -> in.containsAll(term.subList(1, 3));
            default -> in.containsAll(term.subList(6, 10));
        };
    }

    private boolean isGood(List<Integer> row) {
        int a = row.get(2);
        int b = row.get(3);
        int c = row.get(4);
        int d = row.get(5);
        StringBuilder sorts = new StringBuilder();
        for (int id : row.subList(6, 10)) {
            sorts.append(id == NOTHING ? '-' : terms.get(id).get(0) == 2 ? 'P' : 't');
        }
        String s = sorts.toString();
        return switch (row.get(1)) {
            case 1, 2 -> in(a, 5) && c == 0 && d == 0 && s.equals("P---");
            case 3 -> in(a, 5) && in(b, 5) && in(c, 9999) && in(d, 9999) && s.matches("PP(--|P-|PP)");
            case 4 -> a == 0 && b == 0 && c == 0 && d == 0 && s.matches("[Pt]---");
            case 5 -> in(a, 3) && b >= 1 && in(c, 9999) && d == 0 && s.matches("[Pt]P--");
            case 6 -> in(a, 3) && b >= 1 && in(c, 63) && d == 0 && s.equals("----");
            default -> in(a, 3) && in(b, 5) && c >= 1 && in(d, 9999) && s.equals("----");
        };
    }

    private static boolean in(int v, int most) {
        return v >= 0 && v <= most;
    }
}
