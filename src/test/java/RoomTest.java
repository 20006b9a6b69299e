import com.sun.management.ThreadMXBean;
import java.lang.management.ManagementFactory;
import java.util.function.Supplier;

/** How much room calls take: LANGUAGE.md's rule 12, for all calls of a run live in one room. */
public final class RoomTest {
    private static final int NONE = PuppetCast.NONE;
    private static final int CALLS = 400;
    /** Less than the smallest object that each of the calls could make. */
    private static final long NEXT_TO_NOTHING = 8L * CALLS;
    private static final Checks checks = new Checks("RoomTest");

    private interface Call {
        long on(PuppetCast x);
    }

    public static void main(String[] args) {
        playsTakeNone();
        questionsTakeNone();
        refusalsTakeNone();
        bodiesTakeLittle();
        fullObjectTakesLittle();
        checks.end();
    }

    private static long taken() {
        return ((ThreadMXBean) ManagementFactory.getThreadMXBean()).getCurrentThreadAllocatedBytes();
    }

    /** The bytes that the calls of one object take; a first object is for what the machine itself loads. */
    private static long bytesOf(Supplier<PuppetCast> scene, Call call) {
        long bytes = 0;
        for (int objects = 0; objects < 2; objects++) {
            PuppetCast x = scene.get();
            long before = taken();
            for (int i = 0; i < CALLS; i++) {
                call.on(x);
            }
            bytes = taken() - before;
        }
        return bytes;
    }

    private static void takesNone(String told, Call call) {
        takesNone(told, Scenes::company, call);
    }

    private static void takesNone(String told, Supplier<PuppetCast> scene, Call call) {
        long bytes = bytesOf(scene, call);
        checks.due(told + " takes no room: " + bytes + " bytes", bytes < NEXT_TO_NOTHING ? 1 : 0, 1);
    }

    private static void takesLittle(String told, long bytes, long most) {
        checks.due(told + " takes little room: " + bytes + " bytes", bytes > 0 && bytes <= most ? 1 : 0, 1);
    }

    private static void playsTakeNone() {
        checks.due("the deep play is deep", allOpeningOps().play(1, 5, 5), 2);
        checks.due("the long play is long", manyActs().play(0, 7, 5), 6);
        takesNone("a play with ABOVE and a guard", x -> x.play(0, 0, 5));
        takesNone("a play that throws", x -> x.play(0, 11, 5));
        takesNone("a play that finds nothing", x -> x.play(0, 9, 5));
        takesNone("a deep play", RoomTest::allOpeningOps, x -> x.play(1, 5, 5));
        takesNone("a long play", RoomTest::manyActs, x -> x.play(0, 7, 5));
    }

    /** Act 5 of character 1 opens by each op, and at last itself. */
    private static PuppetCast allOpeningOps() {
        PuppetCast x = Scenes.company();
        x.own(1, 5, 0, 0);
        Scenes.ops(x, 0, 1, 0, 6, 0, 0, 7, 0, 0, 8, 1, 4, 10, 4, 0, 4, 1, 0, 10, 9, 0, 5, 5, 0);
        x.body(0, 5, 0, 0);
        x.guard(1, 5, 1);
        Scenes.ops(x, 12, 0, 0);
        return x;
    }

    /** Act 7 calls act 8 eight times, this act 9, this act 10, which marks: the 601st op ends it. */
    private static PuppetCast manyActs() {
        PuppetCast x = Scenes.company();
        for (int act = 7; act < 10; act++) {
            x.own(0, act, 0, 0);
            Scenes.times(x, 8, 5, act + 1, 0);
        }
        x.own(0, 10, 0, 0);
        Scenes.times(x, 8, 0, 1, 0);
        return x;
    }

    private static void questionsTakeNone() {
        takesNone("lineOf", x -> x.lineOf(3, 3));
        takesNone("line", x -> x.line(1, 3));
        takesNone("chosen", x -> x.chosen(0, 4));
        takesNone("clash", x -> x.clash(0, 4));
        takesNone("about", x -> x.about(0, 4, 3));
        takesNone("above", x -> x.above(0, 0, 30));
        takesNone("guards", x -> x.guards(0, 0, 0));
        takesNone("isA", x -> x.isA(0, 2));
        takesNone("count of clashes", x -> x.count(4));
        takesNone("digest", x -> x.digest());
        takesNone("mark", x -> x.mark(0, 4));
    }

    private static void refusalsTakeNone() {
        takesNone("trait without a line", x -> x.trait(0, 1, NONE));
        takesNone("takes without a line", x -> x.takes(1, 0) + x.takes(1, 1));
        takesNone("op of a full body", x -> x.op(4, 1, 0));
        takesNone("leave", x -> x.leave(0, 2, 1));
        takesNone("rename", x -> x.rename(1, 2, 1, 3));
        takesNone("prefer", x -> x.prefer(1, 4, 2));
        takesNone("body of no trait", x -> x.body(4, 0, 0, 0));
    }

    private static void bodiesTakeLittle() {
        takesLittle("400 bodies", bytesOf(Scenes::company, x -> x.body(0, 0, 0, 0)), 400L * 256);
        takesLittle("400 guards", bytesOf(Scenes::company, x -> x.guard(0, 0, 0)), 400L * 256);
        takesLittle("400 bodies of its own", bytesOf(Scenes::company, x -> x.own(0, 0, 0, 0)), 400L * 256);
    }

    private static void fullObjectTakesLittle() {
        long before = taken();
        PuppetCast x = new PuppetCast();
        for (int t = 0; t < 25; t++) {
            x.trait(t - 1, NONE, NONE);
        }
        for (int c = 0; c < 15; c++) {
            x.character(0);
            x.takes(c, 19);
        }
        takesLittle("an object with all traits and characters", taken() - before, 100_000);
    }
}
