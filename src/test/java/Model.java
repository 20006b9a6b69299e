import java.util.ArrayList;
import java.util.HashMap;
import java.util.HashSet;
import java.util.List;
import java.util.Map;
import java.util.Set;

/**
 * The document once more, written apart from the program: with lists, maps and
 * exceptions, each term as its own words say. Slow and plain.
 */
final class Model {
    private static final int CHARACTER = -1;

    private record Op(int kind, int a, int b) { }

    private static final class Body {
        int reach, result, sort;
        boolean need;
        List<Op> ops = new ArrayList<>();
    }

    private static final class TraitOf {
        List<Integer> under = new ArrayList<>();
        Map<Integer, Body> bodies = new HashMap<>(), guards = new HashMap<>();
    }

    private static final class CharacterOf {
        int troupe;
        List<Integer> takes = new ArrayList<>();
        Map<Integer, Body> bodies = new HashMap<>();
        Set<List<Integer>> left = new HashSet<>();
        Map<List<Integer>, Integer> renamed = new HashMap<>();
        Map<Integer, Integer> prefers = new HashMap<>();
        long[] moods = new long[4];
    }

    private static final class Failure extends Exception {
        private static final long serialVersionUID = 1;
        final int how;
        final int number;

        Failure(int how, int number) {
            this.how = how;
            this.number = number;
        }
    }

    private final List<TraitOf> traits = new ArrayList<>();
    private final List<CharacterOf> characters = new ArrayList<>();
    private Body latest;
    private List<long[]> tape = new ArrayList<>();
    private final long[] told = new long[4];

    // ---- traits, characters

    int trait(int a, int b, int c) {
        List<Integer> under = new ArrayList<>();
        int[] all = {a, b, c};
        for (int i = 0; i < 3; i++) {
            if (all[i] == -1) continue;
            if (!isTrait(all[i]) || under.size() < i || under.contains(all[i])) return -2;
            under.add(all[i]);
        }
        if (merge(under) == null) return -3;
        if (traits.size() == 20) return -4;
        TraitOf made = new TraitOf();
        made.under = under;
        traits.add(made);
        return traits.size() - 1;
    }

    int character(int troupe) {
        if (troupe < 0 || troupe > 3) return -2;
        if (characters.size() == 12) return -4;
        CharacterOf made = new CharacterOf();
        made.troupe = troupe;
        characters.add(made);
        return characters.size() - 1;
    }

    int takes(int character, int trait) {
        if (!isCharacter(character) || !isTrait(trait)) return -2;
        List<Integer> takes = characters.get(character).takes;
        if (takes.contains(trait)) return -2;
        List<Integer> then = new ArrayList<>(takes);
        then.add(trait);
        if (merge(then) == null) return -3;
        if (takes.size() == 5) return -4;
        takes.add(trait);
        return takes.size();
    }

    int body(int trait, int act, int reach, int result) {
        if (!isTrait(trait) || !isAct(act) || reach < 0 || reach > 2 || result < 0 || result > 3) return -2;
        latest = new Body();
        latest.reach = reach;
        latest.result = result;
        traits.get(trait).bodies.put(act, latest);
        return 1;
    }

    int need(int trait, int act, int result) {
        int answer = body(trait, act, 0, result);
        if (answer == 1) {
            latest.need = true;
            latest = null;
        }
        return answer;
    }

    int guard(int trait, int act, int sort) {
        if (!isTrait(trait) || !isAct(act) || sort < 0 || sort > 2) return -2;
        latest = new Body();
        latest.sort = sort;
        traits.get(trait).guards.put(act, latest);
        return 1;
    }

    int own(int character, int act, int reach, int result) {
        if (!isCharacter(character) || !isAct(act) || reach < 0 || reach > 2 || result < 0 || result > 3) return -2;
        latest = new Body();
        latest.reach = reach;
        latest.result = result;
        characters.get(character).bodies.put(act, latest);
        return 1;
    }

    int op(int kind, int a, int b) {
        if (kind < 0 || kind > 12) return -2;
        if (kind >= 1 && kind <= 3 && (a < 0 || a > 3)) return -2;
        if ((kind == 5 || kind == 10) && !isAct(a)) return -2;
        if (kind == 7 && (a < 0 || a > 19)) return -2;
        if (kind == 8 && (a < 0 || a > 11 || !isAct(b))) return -2;
        if (latest == null) return -3;
        if (latest.ops.size() == 8) return -4;
        latest.ops.add(new Op(kind, a, b));
        return latest.ops.size();
    }

    int leave(int character, int trait, int act) {
        if (!isCharacter(character) || !isTrait(trait) || !isAct(act)) return -2;
        Set<List<Integer>> left = characters.get(character).left;
        if (left.contains(List.of(trait, act))) return 0;
        if (left.size() == 8) return -4;
        left.add(List.of(trait, act));
        return 1;
    }

    int rename(int character, int trait, int act, int name) {
        if (!isCharacter(character) || !isTrait(trait) || !isAct(act) || !isAct(name) || act == name) return -2;
        Map<List<Integer>, Integer> renamed = characters.get(character).renamed;
        for (Map.Entry<List<Integer>, Integer> e : renamed.entrySet()) {
            if (e.getKey().get(0) == trait && (e.getKey().get(1) == act || e.getValue() == name)) return -3;
        }
        if (renamed.size() == 8) return -4;
        renamed.put(List.of(trait, act), name);
        return 1;
    }

    int prefer(int character, int act, int trait) {
        if (!isCharacter(character) || !isAct(act) || trait != -1 && !isTrait(trait)) return -2;
        Integer before = characters.get(character).prefers.put(act, trait);
        return before == null ? -1 : before;
    }

    // ---- what comes of it

    int lineOf(int trait, int i) {
        if (!isTrait(trait) || i < 0) return -2;
        List<Integer> line = lineOfTrait(trait);
        return i < line.size() ? line.get(i) : -1;
    }

    int line(int character, int i) {
        if (!isCharacter(character) || i < 0) return -2;
        List<Integer> line = traitsOf(character);
        return i < line.size() ? line.get(i) : -1;
    }

    int chosen(int character, int act) {
        if (!isCharacter(character) || !isAct(act)) return -2;
        Integer giver = choice(character, act);
        if (giver != null) return giver == CHARACTER ? 100 : giver;
        for (int g : fullLine(character)) {
            if (offer(character, g, act) != null) return -5;
        }
        return -6;
    }

    int clash(int character, int act) {
        if (!isCharacter(character) || !isAct(act)) return -2;
        Integer giver = choice(character, act);
        if (giver == null) return 0;
        if (giver != CHARACTER && giver != preferredGiver(character, act)) {
            for (int other : bodiesOffered(character, act)) {
                if (other != giver && !standsUnder(giver, other)) return 1;
            }
        }
        for (int g : fullLine(character)) {
            Body o = offer(character, g, act);
            if (o != null && o.result > offer(character, giver, act).result) return 2;
        }
        return 0;
    }

    int about(int character, int act, int what) {
        if (!isCharacter(character) || !isAct(act) || what < 0 || what > 4) return -2;
        if (what == 4) return guarding(character, act).size();
        Integer giver = choice(character, act);
        if (giver == null) return -1;
        Body body = offer(character, giver, act);
        if (what == 0) return body.result;
        if (what == 1) return body.reach;
        if (what == 2) return body.ops.size();
        Set<Integer> wider = new HashSet<>();
        for (int g : fullLine(character)) {
            Body o = offer(character, g, act);
            if (o != null && o.result < body.result) wider.add(o.result);
        }
        return wider.size();
    }

    int above(int character, int act, int steps) {
        if (!isCharacter(character) || !isAct(act) || steps < 0 || steps > 30) return -2;
        Integer giver = choice(character, act);
        for (int i = 0; i < steps && giver != null; i++) giver = aboveOf(character, giver, act);
        return giver == null ? -1 : giver == CHARACTER ? 100 : giver;
    }

    int guards(int character, int act, int i) {
        if (!isCharacter(character) || !isAct(act) || i < 0) return -2;
        List<Integer> all = guarding(character, act);
        return i < all.size() ? all.get(i) : -1;
    }

    int isA(int character, int trait) {
        if (!isCharacter(character) || !isTrait(trait)) return -2;
        return traitsOf(character).contains(trait) ? 1 : 0;
    }

    // ---- plays

    int play(int character, int act, long value) {
        if (!isCharacter(character) || !isAct(act)) return -2;
        tape = new ArrayList<>();
        told[0] = 0;
        told[1] = 0;
        told[2] = 0;
        told[3] = 1;
        try {
            told[0] = call(character, act, value, 1, -1);
            return 0;
        } catch (Failure f) {
            told[1] = f.number;
            return f.how;
        }
    }

    long told(int what) {
        return what >= 0 && what < 4 ? told[what] : 0;
    }

    int marks() {
        return tape.size();
    }

    long mark(int i, int what) {
        return i >= 0 && i < tape.size() && what >= 0 && what < 5 ? tape.get(i)[what] : 0;
    }

    long mood(int character, int k) {
        return isCharacter(character) && k >= 0 && k < 4 ? characters.get(character).moods[k] : 0;
    }

    int setMood(int character, int k, long v) {
        if (!isCharacter(character) || k < 0 || k > 3) return -2;
        characters.get(character).moods[k] = v;
        return 1;
    }

    int count(int what) {
        int n = 0;
        if (what < 0 || what > 5) return -2;
        if (what == 0) return traits.size();
        if (what == 1) return characters.size();
        for (TraitOf t : traits) n += what == 2 ? t.bodies.size() : what == 3 ? t.guards.size() : 0;
        for (int c = 0; c < characters.size() && what > 3; c++) {
            for (int act = 0; act < 12; act++) {
                if (what == 4 ? clash(c, act) > 0 : chosen(c, act) == -5) n++;
            }
        }
        return n;
    }

    long digest() {
        long h = 5;
        for (int c = 0; c < characters.size(); c++) {
            for (int t : traitsOf(c)) h = 31 * h + t;
            for (int act = 0; act < 12; act++) {
                h = 31 * h + chosen(c, act);
                h = 31 * h + clash(c, act);
                h = 31 * h + about(c, act, 3);
            }
            for (int k = 0; k < 4; k++) h = 31 * h + mood(c, k);
        }
        return h;
    }

    // ---- terms

    private boolean isTrait(int t) {
        return t >= 0 && t < traits.size();
    }

    private boolean isCharacter(int c) {
        return c >= 0 && c < characters.size();
    }

    private static boolean isAct(int n) {
        return n >= 0 && n < 12;
    }

    /** Null: there is no line. */
    private List<Integer> merge(List<Integer> givers) {
        List<List<Integer>> rows = new ArrayList<>();
        for (int g : givers) rows.add(lineOfTrait(g));
        rows.add(new ArrayList<>(givers));
        List<Integer> merged = new ArrayList<>();
        while (true) {
            rows.removeIf(List::isEmpty);
            if (rows.isEmpty()) return merged;
            Integer next = null;
            for (List<Integer> row : rows) {
                Integer head = row.get(0);
                boolean free = rows.stream().noneMatch(r -> r.subList(1, r.size()).contains(head));
                if (free && next == null) next = head;
            }
            if (next == null) return null;
            merged.add(next);
            for (List<Integer> row : rows) row.remove(next);
        }
    }

    private List<Integer> lineOfTrait(int t) {
        List<Integer> line = new ArrayList<>();
        line.add(t);
        line.addAll(merge(traits.get(t).under));
        return line;
    }

    private List<Integer> traitsOf(int c) {
        return merge(characters.get(c).takes);
    }

    private List<Integer> fullLine(int c) {
        List<Integer> line = new ArrayList<>();
        line.add(CHARACTER);
        line.addAll(traitsOf(c));
        return line;
    }

    private boolean standsUnder(int lower, int higher) {
        for (int t : traits.get(lower).under) {
            if (t == higher || standsUnder(t, higher)) return true;
        }
        return false;
    }

    /** What a giver in the line offers; null: nothing. */
    private Body offer(int c, int giver, int n) {
        CharacterOf of = characters.get(c);
        if (giver == CHARACTER) return of.bodies.get(n);
        for (int m = 0; m < 12; m++) {
            Integer name = of.renamed.get(List.of(giver, m));
            if (name != null && name == n) return traits.get(giver).bodies.get(m);
        }
        if (of.left.contains(List.of(giver, n)) || of.renamed.containsKey(List.of(giver, n))) return null;
        return traits.get(giver).bodies.get(n);
    }

    /** Those in the line, the character itself too, that offer n, but no needs. */
    private List<Integer> bodiesOffered(int c, int n) {
        List<Integer> all = new ArrayList<>();
        for (int g : fullLine(c)) {
            Body o = offer(c, g, n);
            if (o != null && !o.need) all.add(g);
        }
        return all;
    }

    /** -9: it prefers none that offers n. */
    private int preferredGiver(int c, int n) {
        Integer t = characters.get(c).prefers.get(n);
        return t != null && t != -1 && bodiesOffered(c, n).contains(t) ? t : -9;
    }

    /** Null: nothing is chosen. */
    private Integer choice(int c, int n) {
        List<Integer> all = bodiesOffered(c, n);
        if (all.contains(CHARACTER)) return CHARACTER;
        int preferred = preferredGiver(c, n);
        if (preferred != -9) return preferred;
        return all.isEmpty() ? null : all.get(0);
    }

    private Integer aboveOf(int c, int giver, int n) {
        List<Integer> line = fullLine(c);
        List<Integer> offering = bodiesOffered(c, n);
        for (int g : line.subList(line.indexOf(giver) + 1, line.size())) {
            if (offering.contains(g)) return g;
        }
        return null;
    }

    private List<Integer> guarding(int c, int n) {
        List<Integer> all = new ArrayList<>();
        for (int t : traitsOf(c)) {
            if (traits.get(t).guards.containsKey(n)) all.add(t);
        }
        return all;
    }

    // ---- calls; caller -1: not by a cue

    private long call(int who, int n, long value, int open, int caller) throws Failure {
        if (clash(who, n) != 0) throw new Failure(5, 0);
        Integer giver = choice(who, n);
        if (giver == null) throw new Failure(4, 0);
        if (caller != -1) {
            int reach = offer(who, giver, n).reach;
            boolean same = characters.get(caller).troupe == characters.get(who).troupe;
            if (reach == 2 && caller != who || reach == 1 && !same) throw new Failure(3, 0);
        }
        return inside(who, n, guarding(who, n), value, open);
    }

    private long inside(int who, int n, List<Integer> guarding, long value, int open) throws Failure {
        if (guarding.isEmpty()) {
            int giver = choice(who, n);
            return run(offer(who, giver, n), giver, who, n, null, false, value, open);
        }
        int t = guarding.get(0);
        List<Integer> rest = guarding.subList(1, guarding.size());
        Body guard = traits.get(t).guards.get(n);
        if (guard.sort == 0) {
            return inside(who, n, rest, run(guard, t, who, n, null, true, value, open), open);
        }
        if (guard.sort == 2) {
            return run(guard, t, who, n, null, true, inside(who, n, rest, value, open), open);
        }
        return run(guard, t, who, n, rest, true, value, open);
    }

    /** The rest: what WITHIN means; null: nothing. */
    private long run(Body b, int giver, int who, int n, List<Integer> rest, boolean guard, long value, int open)
            throws Failure {
        long v = value;
        CharacterOf me = characters.get(who);
        for (int i = 0; i < b.ops.size(); i++) {
            Op op = b.ops.get(i);
            if (told[2] == 600) throw new Failure(6, 0);
            told[2]++;
            if (op.kind >= 5 && op.kind <= 8 || op.kind == 10 || op.kind == 12 && rest != null) {
                if (open == 40) throw new Failure(2, 0);
                told[3] = Math.max(told[3], open + 1);
                v = opening(op, giver, who, n, rest, guard, v, open + 1);
            }
            if (op.kind == 0 && tape.size() < 200) tape.add(new long[] {who, giver, n, op.a, v});
            if (op.kind == 1) me.moods[op.a] = v;
            if (op.kind == 2) v = me.moods[op.a];
            if (op.kind == 3) v += me.moods[op.a];
            if (op.kind == 4) v += op.a;
            if (op.kind == 9) throw new Failure(1, op.a);
            if (op.kind == 11 && v < 1) i++;
        }
        return v;
    }

    private long opening(Op op, int giver, int who, int n, List<Integer> rest, boolean guard, long v, int open)
            throws Failure {
        if (op.kind == 5) return call(who, op.a, v, open, -1);
        if (op.kind == 12) return inside(who, n, rest, v, open);
        if (op.kind == 8) {
            if (!isCharacter(op.a)) throw new Failure(4, 0);
            return call(op.a, op.b, v, open, who);
        }
        if (op.kind == 10) {
            try {
                return call(who, op.a, v, open, -1);
            } catch (Failure f) {
                if (f.how == 2 || f.how == 6) throw f;
                return f.how == 1 ? f.number : -10 - f.how;
            }
        }
        Integer other = op.kind == 7 ? Integer.valueOf(op.a) : guard ? choice(who, n) : aboveOf(who, giver, n);
        if (other == null || !bodiesOffered(who, n).contains(other)) throw new Failure(4, 0);
        return run(offer(who, other, n), other, who, n, null, false, v, open);
    }
}
