/** Promises 13 to 20 and 27, 28: what comes of traits and characters. */
public final class ChoiceTest {
    private static final int NONE = PuppetCast.NONE, BAD = PuppetCast.BAD;
    private static final int MIN = Integer.MIN_VALUE, MAX = Integer.MAX_VALUE;
    private static final Checks checks = new Checks("ChoiceTest");

    public static void main(String[] args) {
        promise13();
        promise14();
        promise15();
        promise15Preferences();
        promise16UnlikeOnes();
        promise16NarrowerOnes();
        promise17();
        promise18();
        promise19();
        promise20();
        promise27();
        promise28();
        checks.end();
    }

    private static void due(String call, long got, long want) {
        checks.due(call, got, want);
    }

    private static void dueLineOf(PuppetCast x, int trait, int... want) {
        for (int i = 0; i < want.length; i++) {
            due("13 lineOf(" + trait + ", " + i + ")", x.lineOf(trait, i), want[i]);
        }
        due("13 end of the line of " + trait, x.lineOf(trait, want.length), NONE);
    }

    private static void dueLine(PuppetCast x, int character, int... want) {
        for (int i = 0; i < want.length; i++) {
            due("14 line(" + character + ", " + i + ")", x.line(character, i), want[i]);
        }
        due("14 end of the line of " + character, x.line(character, want.length), NONE);
    }

    /** The example by which merging is mostly told. */
    private static PuppetCast manyRows() {
        PuppetCast x = new PuppetCast();
        x.trait(NONE, NONE, NONE);
        for (int t = 1; t <= 5; t++) {
            x.trait(0, NONE, NONE);
        }
        x.trait(1, 2, 3);
        x.trait(4, 2, 5);
        x.trait(4, 1, NONE);
        x.trait(6, 7, 8);
        return x;
    }

    private static void promise13() {
        PuppetCast x = manyRows();
        dueLineOf(x, 0, 0);
        dueLineOf(x, 1, 1, 0);
        dueLineOf(x, 6, 6, 1, 2, 3, 0);
        dueLineOf(x, 7, 7, 4, 2, 5, 0);
        dueLineOf(x, 8, 8, 4, 1, 0);
        dueLineOf(x, 9, 9, 6, 7, 8, 4, 1, 2, 3, 5, 0);
        due("13 i -1", x.lineOf(0, -1), BAD);
        due("13 i MAX", x.lineOf(0, MAX), NONE);
        due("13 i 20", x.lineOf(0, 20), NONE);
        due("13 trait 10", x.lineOf(10, 0), BAD);
        due("13 trait -1", x.lineOf(-1, 0), BAD);
        PuppetCast y = new PuppetCast();
        for (int t = 0; t < 20; t++) {
            y.trait(t - 1, NONE, NONE);
        }
        due("13 the longest line", y.lineOf(19, 19), 0);
        due("13 behind the longest line", y.lineOf(19, 20), NONE);
    }

    private static void promise14() {
        PuppetCast x = manyRows();
        x.character(0);
        due("14 empty", x.line(0, 0), NONE);
        x.takes(0, 6);
        dueLine(x, 0, 6, 1, 2, 3, 0);
        x.takes(0, 7);
        x.takes(0, 8);
        dueLine(x, 0, 6, 7, 8, 4, 1, 2, 3, 5, 0);
        due("14 i -1", x.line(0, -1), BAD);
        due("14 i MAX", x.line(0, MAX), NONE);
        due("14 character 1", x.line(1, 0), BAD);
        due("14 character MIN", x.line(MIN, 0), BAD);
        PuppetCast y = new PuppetCast();
        for (int t = 0; t < 20; t++) {
            y.trait(t - 1, NONE, NONE);
        }
        y.character(0);
        y.takes(0, 19);
        due("14 the longest line", y.line(0, 19), 0);
        due("14 behind the longest line", y.line(0, 20), NONE);
    }

    private static void promise15() {
        PuppetCast x = new PuppetCast();
        x.trait(NONE, NONE, NONE);
        x.trait(0, NONE, NONE);
        x.character(0);
        due("15 character 1", x.chosen(1, 0), BAD);
        due("15 character -1", x.chosen(-1, 0), BAD);
        due("15 act 12", x.chosen(0, 12), BAD);
        due("15 act -1", x.chosen(0, -1), BAD);
        due("15 nothing", x.chosen(0, 0), -6);
        x.body(0, 0, 0, 0);
        due("15 not in the line", x.chosen(0, 0), -6);
        x.takes(0, 1);
        due("15 from above", x.chosen(0, 0), 0);
        x.body(1, 0, 0, 0);
        due("15 the first in the line", x.chosen(0, 0), 1);
        x.need(1, 0, 0);
        due("15 a need is not chosen", x.chosen(0, 0), 0);
        x.need(0, 0, 0);
        due("15 missing", x.chosen(0, 0), -5);
        x.own(0, 0, 0, 0);
        due("15 its own", x.chosen(0, 0), 100);
        x.body(0, 3, 0, 0);
        x.rename(0, 0, 3, 4);
        due("15 renamed", x.chosen(0, 4), 0);
        due("15 no more under the old name", x.chosen(0, 3), -6);
        x.need(0, 3, 0);
        due("15 a need renamed", x.chosen(0, 4), -5);
    }

    private static void promise15Preferences() {
        PuppetCast x = new PuppetCast();
        x.trait(NONE, NONE, NONE);
        x.trait(NONE, NONE, NONE);
        x.trait(NONE, NONE, NONE);
        x.character(0);
        x.takes(0, 0);
        x.takes(0, 1);
        x.body(0, 0, 0, 0);
        x.body(1, 0, 0, 0);
        x.body(2, 0, 0, 0);
        x.prefer(0, 0, 2);
        due("15 prefers one that is not in the line", x.chosen(0, 0), 0);
        due("15 and clashes", x.clash(0, 0), 1);
        x.prefer(0, 0, 1);
        due("15 prefers", x.chosen(0, 0), 1);
        due("15 and does not clash", x.clash(0, 0), 0);
        x.prefer(0, 0, 0);
        due("15 prefers the first", x.chosen(0, 0), 0);
        due("15 and does not clash either", x.clash(0, 0), 0);
        x.need(1, 0, 0);
        x.prefer(0, 0, 1);
        due("15 prefers a need", x.chosen(0, 0), 0);
        x.body(1, 5, 0, 0);
        x.rename(0, 1, 5, 0);
        due("15 prefers what is renamed", x.chosen(0, 0), 1);
        x.own(0, 0, 0, 0);
        due("15 its own before what it prefers", x.chosen(0, 0), 100);
    }

    private static void promise16UnlikeOnes() {
        PuppetCast x = new PuppetCast();
        x.trait(NONE, NONE, NONE);
        x.trait(0, NONE, NONE);
        x.trait(1, NONE, NONE);
        x.trait(0, NONE, NONE);
        x.character(0);
        x.takes(0, 2);
        x.body(2, 0, 0, 0);
        x.body(0, 0, 0, 0);
        due("16 stands under it at two steps", x.clash(0, 0), 0);
        x.takes(0, 3);
        due("16 nobody new offers", x.clash(0, 0), 0);
        x.body(3, 0, 0, 0);
        due("16 one that the first does not stand under", x.clash(0, 0), 1);
        x.leave(0, 3, 0);
        due("16 left out", x.clash(0, 0), 0);
        x.body(3, 1, 0, 0);
        x.rename(0, 3, 1, 0);
        due("16 renamed to it", x.clash(0, 0), 1);
        x.need(3, 1, 0);
        due("16 a need is no rival", x.clash(0, 0), 0);
        x.need(3, 1, 1);
        due("16 but a narrower one clashes", x.clash(0, 0), 2);
        x.body(3, 1, 0, 1);
        due("16 the least reason", x.clash(0, 0), 1);
        x.own(0, 0, 0, 0);
        due("16 its own, but narrower ones", x.clash(0, 0), 2);
        x.own(0, 0, 0, 1);
        due("16 its own, narrow enough", x.clash(0, 0), 0);
        due("16 nothing chosen", x.clash(0, 7), 0);
        x.need(0, 7, 3);
        due("16 missing", x.clash(0, 7), 0);
        due("16 character 1", x.clash(1, 0), BAD);
        due("16 character -1", x.clash(-1, 0), BAD);
        due("16 act 12", x.clash(0, 12), BAD);
        due("16 act -1", x.clash(0, -1), BAD);
    }

    private static void promise16NarrowerOnes() {
        for (int low = 0; low < 4; low++) {
            for (int high = 0; high < 4; high++) {
                PuppetCast x = new PuppetCast();
                x.trait(NONE, NONE, NONE);
                x.trait(0, NONE, NONE);
                x.character(0);
                x.takes(0, 1);
                x.body(1, 0, 0, low);
                x.body(0, 0, 0, high);
                due("16 body " + low + " under " + high, x.clash(0, 0), high > low ? 2 : 0);
                x.need(0, 0, high);
                due("16 body " + low + " under need " + high, x.clash(0, 0), high > low ? 2 : 0);
                x.prefer(0, 0, 1);
                due("16 preferred " + low + " with " + high, x.clash(0, 0), high > low ? 2 : 0);
            }
        }
    }

    private static void promise17() {
        PuppetCast x = new PuppetCast();
        for (int t = 0; t < 5; t++) {
            x.trait(t - 1, NONE, NONE);
        }
        x.character(0);
        x.takes(0, 4);
        x.guard(0, 0, 1);
        for (int what = 0; what < 4; what++) {
            due("17 nothing chosen", x.about(0, 0, what), NONE);
        }
        due("17 guards, though nothing is chosen", x.about(0, 0, 4), 1);
        x.need(3, 0, 1);
        due("17 missing", x.about(0, 0, 3), NONE);
        x.body(4, 0, 2, 3);
        x.op(4, 1, 0);
        x.op(4, 1, 0);
        x.op(4, 1, 0);
        due("17 result", x.about(0, 0, 0), 3);
        due("17 reach", x.about(0, 0, 1), 2);
        due("17 ops", x.about(0, 0, 2), 3);
        due("17 a need is bridged", x.about(0, 0, 3), 1);
        x.body(2, 0, 0, 1);
        due("17 each result once", x.about(0, 0, 3), 1);
        x.body(1, 0, 0, 0);
        due("17 two bridges", x.about(0, 0, 3), 2);
        x.body(0, 0, 0, 2);
        due("17 three bridges", x.about(0, 0, 3), 3);
        x.body(0, 0, 0, 3);
        due("17 its own result is none", x.about(0, 0, 3), 2);
        x.guard(3, 0, 0);
        due("17 guards", x.about(0, 0, 4), 2);
        x.guard(4, 0, 0);
        due("17 guards of all sorts", x.about(0, 0, 4), 3);
        due("17 guards of another act", x.about(0, 1, 4), 0);
        x.own(0, 0, 1, 2);
        due("17 own result", x.about(0, 0, 0), 2);
        due("17 own reach", x.about(0, 0, 1), 1);
        due("17 own ops", x.about(0, 0, 2), 0);
        due("17 narrower ones are no bridges", x.about(0, 0, 3), 2);
        due("17 what 5", x.about(0, 0, 5), BAD);
        due("17 what -1", x.about(0, 0, -1), BAD);
        due("17 act 12", x.about(0, 12, 0), BAD);
        due("17 act -1", x.about(0, -1, 4), BAD);
        due("17 character 1", x.about(1, 0, 0), BAD);
        due("17 character -1", x.about(-1, 0, 4), BAD);
    }

    private static void promise18() {
        PuppetCast x = new PuppetCast();
        for (int t = 0; t < 5; t++) {
            x.trait(t - 1, NONE, NONE);
        }
        x.character(0);
        x.takes(0, 4);
        due("18 nothing chosen, no step", x.above(0, 0, 0), NONE);
        due("18 nothing chosen, a step", x.above(0, 0, 1), NONE);
        x.need(2, 0, 0);
        due("18 missing, no step", x.above(0, 0, 0), NONE);
        x.body(4, 0, 0, 0);
        x.body(1, 0, 0, 0);
        x.body(0, 0, 0, 0);
        due("18 no step", x.above(0, 0, 0), 4);
        due("18 over a need", x.above(0, 0, 1), 1);
        due("18 two steps", x.above(0, 0, 2), 0);
        due("18 three steps", x.above(0, 0, 3), NONE);
        due("18 thirty", x.above(0, 0, 30), NONE);
        x.own(0, 0, 0, 0);
        due("18 own, no step", x.above(0, 0, 0), 100);
        due("18 own, a step", x.above(0, 0, 1), 4);
        due("18 own, three steps", x.above(0, 0, 3), 0);
        x.leave(0, 1, 0);
        due("18 left out", x.above(0, 0, 2), 0);
        x.own(0, 1, 0, 0);
        due("18 alone", x.above(0, 1, 1), NONE);
        due("18 steps 31", x.above(0, 0, 31), BAD);
        due("18 steps -1", x.above(0, 0, -1), BAD);
        due("18 act 12", x.above(0, 12, 0), BAD);
        due("18 act -1", x.above(0, -1, 0), BAD);
        due("18 character 1", x.above(1, 0, 0), BAD);
        PuppetCast y = new PuppetCast();
        y.trait(NONE, NONE, NONE);
        y.trait(NONE, NONE, NONE);
        y.character(0);
        y.takes(0, 0);
        y.takes(0, 1);
        y.body(0, 0, 0, 0);
        y.body(1, 0, 0, 0);
        y.prefer(0, 0, 1);
        due("18 behind what is preferred, not before it", y.above(0, 0, 1), NONE);
    }

    private static void promise19() {
        PuppetCast x = new PuppetCast();
        for (int t = 0; t < 4; t++) {
            x.trait(t - 1, NONE, NONE);
        }
        x.trait(NONE, NONE, NONE);
        x.character(0);
        x.takes(0, 3);
        due("19 none", x.guards(0, 0, 0), NONE);
        x.guard(0, 0, 0);
        x.guard(3, 0, 2);
        x.guard(2, 0, 1);
        x.guard(4, 0, 1);
        due("19 outermost", x.guards(0, 0, 0), 3);
        due("19 next", x.guards(0, 0, 1), 2);
        due("19 innermost", x.guards(0, 0, 2), 0);
        due("19 not of one outside the line", x.guards(0, 0, 3), NONE);
        x.leave(0, 3, 0);
        x.rename(0, 2, 0, 1);
        due("19 a guard is not left out", x.guards(0, 0, 0), 3);
        due("19 nor renamed", x.guards(0, 0, 1), 2);
        due("19 nor is it of the name", x.guards(0, 1, 0), NONE);
        due("19 i -1", x.guards(0, 0, -1), BAD);
        due("19 i MAX", x.guards(0, 0, MAX), NONE);
        due("19 act 12", x.guards(0, 12, 0), BAD);
        due("19 act -1", x.guards(0, -1, 0), BAD);
        due("19 character 1", x.guards(1, 0, 0), BAD);
    }

    private static void promise20() {
        PuppetCast x = new PuppetCast();
        x.trait(NONE, NONE, NONE);
        x.trait(0, NONE, NONE);
        x.trait(1, NONE, NONE);
        x.character(0);
        due("20 before", x.isA(0, 0), 0);
        x.takes(0, 1);
        due("20 what it takes", x.isA(0, 1), 1);
        due("20 what that stands under", x.isA(0, 0), 1);
        due("20 what stands under that", x.isA(0, 2), 0);
        due("20 trait 3", x.isA(0, 3), BAD);
        due("20 trait -1", x.isA(0, -1), BAD);
        due("20 character 1", x.isA(1, 0), BAD);
        due("20 character MAX", x.isA(MAX, 0), BAD);
    }

    private static void promise27() {
        PuppetCast x = new PuppetCast();
        x.trait(NONE, NONE, NONE);
        x.trait(NONE, NONE, NONE);
        x.trait(NONE, NONE, NONE);
        x.character(0);
        x.character(1);
        x.takes(0, 0);
        x.takes(0, 1);
        x.takes(1, 0);
        x.takes(1, 1);
        x.body(0, 0, 0, 0);
        x.body(1, 0, 0, 0);
        x.body(0, 11, 0, 0);
        x.need(1, 11, 1);
        x.need(1, 5, 1);
        x.guard(0, 7, 0);
        x.guard(2, 7, 0);
        x.own(0, 6, 0, 0);
        due("27 traits", x.count(0), 3);
        due("27 characters", x.count(1), 2);
        due("27 bodies and needs", x.count(2), 5);
        due("27 guards", x.count(3), 2);
        due("27 clashes", x.count(4), 4);
        due("27 missing", x.count(5), 2);
        x.prefer(1, 0, 1);
        due("27 one less clashes", x.count(4), 3);
        x.own(1, 5, 0, 0);
        due("27 one less is missing, but it clashes", x.count(5), 1);
        due("27 one more clashes", x.count(4), 4);
        x.need(0, 0, 0);
        x.need(1, 0, 0);
        due("27 the first act is missing, too", x.count(5), 3);
        due("27 and does not clash", x.count(4), 3);
        due("27 6", x.count(6), BAD);
        due("27 -1", x.count(-1), BAD);
        due("27 MIN", x.count(MIN), BAD);
    }

    private static void promise28() {
        PuppetCast x = new PuppetCast();
        due("28 empty", x.digest(), 5);
        x.trait(NONE, NONE, NONE);
        x.trait(0, NONE, NONE);
        due("28 traits alone", x.digest(), 5);
        x.character(0);
        x.character(2);
        x.takes(0, 1);
        x.body(0, 0, 0, 1);
        x.body(1, 0, 0, 2);
        x.body(1, 1, 0, 0);
        x.body(0, 1, 0, 3);
        x.need(0, 2, 0);
        x.own(1, 11, 0, 0);
        x.setMood(0, 0, 4);
        x.setMood(0, 3, Long.MIN_VALUE);
        x.setMood(1, 1, -1);
        long h = 5;
        for (long v : new long[] {1, 0, 1, 0, 1, 1, 2, 0, -5, 0, -1}) {
            h = 31 * h + v;
        }
        for (int act = 3; act < 12; act++) {
            h = ((h * 31 - 6) * 31 + 0) * 31 - 1;
        }
        for (long v : new long[] {4, 0, 0, Long.MIN_VALUE}) {
            h = 31 * h + v;
        }
        for (int act = 0; act < 11; act++) {
            h = ((h * 31 - 6) * 31 + 0) * 31 - 1;
        }
        for (long v : new long[] {100, 0, 0, 0, -1, 0, 0}) {
            h = 31 * h + v;
        }
        due("28 two characters", x.digest(), h);
        x.play(1, 11, 7);
        due("28 a play alone changes nothing", x.digest(), h);
    }
}
