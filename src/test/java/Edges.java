import java.util.function.Supplier;

/** Checks single calls, each on an object of its own that is made anew. */
final class Edges {
    interface Call {
        long on(PuppetCast x);
    }

    interface Numbered {
        long on(PuppetCast x, int n);
    }

    private final Checks checks;
    private final Supplier<PuppetCast> scene;

    Edges(Checks checks, Supplier<PuppetCast> scene) {
        this.checks = checks;
        this.scene = scene;
    }

    void answers(String told, long want, Call call) {
        checks.due(told, call.on(scene.get()), want);
    }

    /** It answers so, and nothing can be seen of it afterwards. */
    void refuses(String told, long want, Call call) {
        PuppetCast x = scene.get();
        checks.due(told, call.on(x), want);
        boolean isSame = Sights.of(x).equals(Sights.of(scene.get()));
        checks.due(told + ": nothing changed", isSame ? 1 : 0, 1);
    }

    /** A question: it answers so, and nothing can be seen of it afterwards. */
    void asks(String told, long want, Call call) {
        refuses(told, want, call);
    }

    /** It answers so, and something can be seen of it afterwards. */
    void changes(String told, long want, Call call) {
        PuppetCast x = scene.get();
        checks.due(told, call.on(x), want);
        boolean isSame = Sights.of(x).equals(Sights.of(scene.get()));
        checks.due(told + ": something changed", isSame ? 1 : 0, 0);
    }

    /** The first and the last number that are as told, and what is refused beside them. */
    void bounds(String told, int first, long atFirst, int last, long atLast, Numbered call) {
        answers(told + " " + first, atFirst, x -> call.on(x, first));
        answers(told + " " + last, atLast, x -> call.on(x, last));
        for (int n : new int[] {first - 1, Integer.MIN_VALUE, last + 1, Integer.MAX_VALUE}) {
            refuses(told + " " + n, PuppetCast.BAD, x -> call.on(x, n));
        }
    }
}
