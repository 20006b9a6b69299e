/** Mixed runs of the 512 calls that an object has, each answered by the program and by the model. */
public final class ModelTest {
    private static final int RUNS = 6000, CALLS = 512;
    /** More calls than one step makes, and the digest. */
    private static final int ONE_STEP = 64;
    private static final int PLAY = 33;
    private static final Checks checks = new Checks("ModelTest");
    private static final int[] WIDE = {0, 4, 10, 10, 10, 10, 10, 11};
    private static final int[] EDGES = {-1, -2, 12, 20, 100, Integer.MAX_VALUE, Integer.MIN_VALUE};

    private final PuppetCast x = new PuppetCast();
    private final Model y = new Model();
    private final int acts;
    private final boolean isWide;
    private long state;
    private int calls;

    private ModelTest(int run) {
        state = run * 7919L + 13;
        acts = 1 + run % 12;
        isWide = run % 2 == 1;
    }

    public static void main(String[] args) {
        int[] endings = new int[7];
        for (int run = 0; run < RUNS && checks.wrong() == 0; run++) {
            new ModelTest(run).go(run, endings);
        }
        for (int ending = 0; ending < endings.length; ending++) {
            checks.due("plays that end with " + ending + " are in these runs", Math.min(endings[ending], 100), 100);
        }
        checks.end();
    }

    private void go(int run, int[] endings) {
        int setUp = isWide ? 300 : 60 + below(300);
        while (calls < CALLS - ONE_STEP && checks.wrong() == 0) {
            int what = calls < setUp ? below(16) : isWide && below(2) == 0 ? PLAY : below(34);
            step("run " + run + ", call " + calls + ", " + what, what, endings);
        }
        due("run " + run + ", digest", x.digest(), y.digest());
        checks.due("run " + run + " makes no call too many", Math.min(calls, CALLS), calls);
    }

    private void due(String call, long got, long want) {
        calls++;
        checks.due(call, got, want);
    }

    private int below(int bound) {
        state = state * 6364136223846793005L + 1442695040888963407L;
        return (int) Long.remainderUnsigned(state >>> 33, bound);
    }

    /** Mostly below the bound, at times an edge. */
    private int number(int bound) {
        return below(60) == 0 ? EDGES[below(EDGES.length)] : below(bound);
    }

    private int aTrait() {
        return number(Math.max(1, y.count(0)));
    }

    private int aCharacter() {
        return number(Math.max(1, y.count(1)));
    }

    private int anAct() {
        return number(acts);
    }

    private void step(String told, int what, int[] endings) {
        if (what < 16) {
            build(told, what);
        } else if (what < 26) {
            ask(told, what);
        } else {
            playOne(told, endings);
        }
    }

    private void build(String told, int what) {
        int c = aCharacter(), t = aTrait(), n = anAct();
        switch (what) {
            case 0: case 1:
                if (isWide && y.count(0) >= 4) {
                    break;
                }
                int a = below(3) == 0 ? -1 : t, b = below(2) == 0 ? -1 : aTrait(), d = below(2) == 0 ? -1 : aTrait();
                due(told + " trait", x.trait(a, b, d), y.trait(a, b, d));
                break;
            case 2:
                if (isWide && y.count(1) >= 2) {
                    break;
                }
                int troupe = number(4);
                due(told + " character", x.character(troupe), y.character(troupe));
                break;
            case 3: case 4:
                due(told + " takes", x.takes(c, t), y.takes(c, t));
                break;
            case 5:
                int reach = number(3), result = below(4) == 0 ? number(4) : 0;
                due(told + " body", x.body(t, n, reach, result), y.body(t, n, reach, result));
                addOps(told, n);
                break;
            case 6:
                int narrow = below(3) == 0 ? number(4) : 0;
                due(told + " need", x.need(t, n, narrow), y.need(t, n, narrow));
                break;
            case 7:
                int sort = number(3);
                due(told + " guard", x.guard(t, n, sort), y.guard(t, n, sort));
                addOps(told, n);
                break;
            case 8:
                int far = number(3), own = number(4);
                due(told + " own", x.own(c, n, far, own), y.own(c, n, far, own));
                addOps(told, n);
                break;
            case 9:
                if (below(2) == 0) {
                    due(told + " leave", x.leave(c, t, n), y.leave(c, t, n));
                }
                break;
            case 10:
                int name = number(12);
                due(told + " rename", x.rename(c, t, n, name), y.rename(c, t, n, name));
                break;
            case 11:
                int liked = below(5) == 0 ? -1 : t;
                due(told + " prefer", x.prefer(c, n, liked), y.prefer(c, n, liked));
                break;
            case 12:
                int k = number(4);
                long v = below(4) == 0 ? (long) below(1 << 30) << 33 : below(9) - 4;
                due(told + " setMood", x.setMood(c, k, v), y.setMood(c, k, v));
                break;
            default:
                addOps(told, n);
        }
    }

    /** In every second run few givers have many ops that call only acts behind them: plays are wide, not deep. */
    private void addOps(String told, int act) {
        int many = isWide ? 5 + below(4) : below(9);
        for (int i = 0; i < many; i++) {
            int kind = isWide && below(12) > 0 ? WIDE[below(WIDE.length)] : number(13);
            if (isWide && (kind == 5 || kind == 10) && act >= 0 && act < 11) {
                int next = act + 1 + below(Math.min(3, 11 - act));
                due(told + " op " + kind, x.op(kind, next, 0), y.op(kind, next, 0));
                continue;
            }
            int a = kind == 0 || kind == 4 || kind == 9 ? below(30) - 9 : kind == 7 ? aTrait() : kind == 8 ? aCharacter()
                : kind == 5 || kind == 10 ? anAct() : number(4);
            int b = anAct();
            due(told + " op " + kind, x.op(kind, a, b), y.op(kind, a, b));
        }
    }

    private void ask(String told, int what) {
        int c = aCharacter(), t = aTrait(), n = anAct(), i = number(8);
        switch (what) {
            case 16:
                due(told + " lineOf", x.lineOf(t, i), y.lineOf(t, i));
                break;
            case 17:
                due(told + " line", x.line(c, i), y.line(c, i));
                break;
            case 18:
                due(told + " chosen", x.chosen(c, n), y.chosen(c, n));
                break;
            case 19:
                due(told + " clash", x.clash(c, n), y.clash(c, n));
                break;
            case 20:
                due(told + " about", x.about(c, n, i), y.about(c, n, i));
                break;
            case 21:
                due(told + " above", x.above(c, n, i), y.above(c, n, i));
                break;
            case 22:
                due(told + " guards", x.guards(c, n, i), y.guards(c, n, i));
                break;
            case 23:
                due(told + " isA", x.isA(c, t), y.isA(c, t));
                break;
            case 24:
                due(told + " count", x.count(i), y.count(i));
                break;
            default:
                due(told + " mood", x.mood(c, i), y.mood(c, i));
        }
    }

    private void playOne(String told, int[] endings) {
        int c = aCharacter(), n = anAct();
        for (int tries = 0; tries < 6 && y.chosen(c, n) < 0; tries++) {
            c = aCharacter();
            n = anAct();
        }
        long v = below(5) == 0 ? Long.MAX_VALUE - below(20) : below(60) - 10;
        int ending = y.play(c, n, v);
        due(told + " play", x.play(c, n, v), ending);
        if (ending >= 0) {
            endings[ending]++;
        }
        for (int what = 0; what < 4; what++) {
            due(told + " told", x.told(what), y.told(what));
        }
        due(told + " marks", x.marks(), y.marks());
        for (int i = 0; i < 4; i++) {
            dueMark(told, i);
        }
        dueMark(told, y.marks() - 1);
        dueMark(told, y.marks());
        dueMark(told, below(200));
        for (int k = 0; k < 4; k++) {
            due(told + " mood", x.mood(c, k), y.mood(c, k));
        }
    }

    private void dueMark(String told, int i) {
        for (int what = 0; what < 5; what++) {
            due(told + " mark", x.mark(i, what), y.mark(i, what));
        }
    }
}
