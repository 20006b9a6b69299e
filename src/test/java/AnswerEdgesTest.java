/** Promises 13 to 20, 27 and 28: each boundary that the document names, a function for each sentence. */
public final class AnswerEdgesTest {
    private static final int NONE = PuppetCast.NONE, BAD = PuppetCast.BAD, NO = PuppetCast.NO;
    private static final int MIN = Integer.MIN_VALUE, MAX = Integer.MAX_VALUE;
    private static final int OWN = 100, MISSING = -5, NOTHING = -6;
    private static final Checks checks = new Checks("AnswerEdgesTest");
    private static final Edges company = new Edges(checks, Scenes::company);

    public static void main(String[] args) {
        lineOfNumbers();
        lineOfMerges();
        lineOfAsksForTheRowOfTraits();
        lineOfTwenty();
        lineNumbers();
        lineOfNobody();
        lineOfManyRows();
        chosenNumbers();
        chosenItsOwnFirst();
        chosenPreferred();
        chosenPreferredThatOffersNone();
        chosenFirst();
        missingOrNothing();
        offersOfRenamed();
        offersOfLeftOut();
        clashNumbers();
        clashInCase3Alone();
        clashUnderAtWhateverHeight();
        clashOfNarrower();
        clashLeastReason();
        clashOfNothing();
        aboutNumbers();
        aboutNothing();
        bridges();
        guardCount();
        aboveNumbers();
        aboveToTheEnd();
        abovePassesOver();
        guardsNumbers();
        guardsToTheEnd();
        guardsStay();
        isANumbers();
        isAFromWhenOn();
        countNumbers();
        countMost();
        countWithoutCharacters();
        countEachActOnce();
        digestOfMoods();
        digestRunsOver();
        digestOfMany();
        checks.end();
    }

    private static void due(String call, long got, long want) {
        checks.due(call, got, want);
    }

    private static void dueLineOf(PuppetCast x, int trait, int... want) {
        for (int i = 0; i < want.length; i++) {
            due("13 lineOf(" + trait + ", " + i + ")", x.lineOf(trait, i), want[i]);
        }
        due("13 lineOf(" + trait + "), its end", x.lineOf(trait, want.length), NONE);
    }

    private static void dueLine(PuppetCast x, int character, int... want) {
        for (int i = 0; i < want.length; i++) {
            due("14 line(" + character + ", " + i + ")", x.line(character, i), want[i]);
        }
        due("14 line(" + character + "), its end", x.line(character, want.length), NONE);
    }

    /** Character 0 takes two traits, 0 and 1, that have nothing to do with one another. */
    private static PuppetCast pair() {
        PuppetCast x = Scenes.loose(2);
        x.character(0);
        x.takes(0, 0);
        x.takes(0, 1);
        return x;
    }

    // ---- promise 13

    private static void lineOfNumbers() {
        company.bounds("13 trait", 0, 0, 3, 3, (x, n) -> x.lineOf(n, 0));
        company.asks("13 i 0", 3, x -> x.lineOf(3, 0));
        company.asks("13 the last i", 2, x -> x.lineOf(3, 3));
        company.asks("13 the first i behind it", NONE, x -> x.lineOf(3, 4));
        company.asks("13 i MAX", NONE, x -> x.lineOf(3, MAX));
        company.refuses("13 i -1", BAD, x -> x.lineOf(3, -1));
        company.refuses("13 i MIN", BAD, x -> x.lineOf(3, MIN));
        company.refuses("13 trait and i", BAD, x -> x.lineOf(4, -1));
        company.refuses("13 no such trait, and not so many", BAD, x -> x.lineOf(4, MAX));
        Edges full = new Edges(checks, Scenes::allTraits);
        full.bounds("13 trait of twenty", 0, 0, 19, 19, (x, n) -> x.lineOf(n, 0));
    }

    private static void lineOfMerges() {
        PuppetCast x = Scenes.loose(3);
        x.trait(0, 1, 2);
        x.trait(2, 1, 0);
        x.trait(0, NONE, NONE);
        x.trait(1, 0, NONE);
        x.trait(5, 6, NONE);
        x.trait(5, 1, 0);
        dueLineOf(x, 2, 2);
        dueLineOf(x, 3, 3, 0, 1, 2);
        dueLineOf(x, 4, 4, 2, 1, 0);
        dueLineOf(x, 5, 5, 0);
        dueLineOf(x, 6, 6, 1, 0);
        dueLineOf(x, 7, 7, 5, 6, 1, 0);
        dueLineOf(x, 8, 8, 5, 1, 0);
    }

    /** Without the row of the traits themselves, last, there would be a line. */
    private static void lineOfAsksForTheRowOfTraits() {
        PuppetCast x = Scenes.loose(1);
        x.trait(0, NONE, NONE);
        due("13 the row of traits is merged", x.trait(0, 1, NONE), NO);
        due("13 in the other order it fits", x.trait(1, 0, NONE), 2);
        dueLineOf(x, 2, 2, 1, 0);
    }

    private static void lineOfTwenty() {
        PuppetCast x = Scenes.chain(20);
        for (int i = 0; i < 20; i++) {
            due("13 the longest, " + i, x.lineOf(19, i), 19 - i);
        }
        due("13 the longest, its end", x.lineOf(19, 20), NONE);
        due("13 the longest, behind its end", x.lineOf(19, 21), NONE);
        due("13 the shortest", x.lineOf(0, 0), 0);
        due("13 the shortest, its end", x.lineOf(0, 1), NONE);
    }

    // ---- promise 14

    private static void lineNumbers() {
        company.bounds("14 character", 0, 1, 1, 3, (x, n) -> x.line(n, 0));
        company.asks("14 the last i", 2, x -> x.line(0, 2));
        company.asks("14 the first i behind it", NONE, x -> x.line(0, 3));
        company.asks("14 i MAX", NONE, x -> x.line(0, MAX));
        company.refuses("14 i -1", BAD, x -> x.line(0, -1));
        company.refuses("14 i MIN", BAD, x -> x.line(0, MIN));
        Edges full = new Edges(checks, Scenes::allCharacters);
        full.bounds("14 character of twelve", 0, 1, 11, NONE, (x, n) -> x.line(n, 0));
    }

    private static void lineOfNobody() {
        PuppetCast x = new PuppetCast();
        x.character(0);
        due("14 it takes none", x.line(0, 0), NONE);
        due("14 -1 of it", x.line(0, -1), BAD);
    }

    private static void lineOfManyRows() {
        PuppetCast x = Scenes.chain(20);
        dueLine(x, 0, 19, 18, 17, 16, 15, 14, 13, 12, 11, 10, 9, 8, 7, 6, 5, 4, 3, 2, 1, 0);
        x.character(0);
        int[] order = {18, 15, 11, 3, 0};
        for (int i = 0; i < 5; i++) {
            due("14 five rows and the row of these", x.takes(1, order[i]), i + 1);
        }
        dueLine(x, 1, 18, 17, 16, 15, 14, 13, 12, 11, 10, 9, 8, 7, 6, 5, 4, 3, 2, 1, 0);
        PuppetCast y = Scenes.loose(10);
        for (int t = 0; t < 10; t++) {
            y.trait(t, NONE, NONE);
        }
        y.character(0);
        for (int t = 14; t >= 10; t--) {
            y.takes(0, t);
        }
        dueLine(y, 0, 14, 4, 13, 3, 12, 2, 11, 1, 10, 0);
    }

    // ---- promise 15

    private static void chosenNumbers() {
        company.bounds("15 character", 0, 0, 1, 2, (x, n) -> x.chosen(n, 4));
        company.bounds("15 act", 0, 1, 11, 0, (x, n) -> x.chosen(0, n));
        company.asks("15 its own", OWN, x -> x.chosen(1, 5));
        company.asks("15 missing", MISSING, x -> x.chosen(0, 2));
        company.asks("15 nothing", NOTHING, x -> x.chosen(0, 10));
        PuppetCast x = Scenes.chain(20);
        x.body(0, 0, 0, 0);
        due("15 the last of the longest line", x.chosen(0, 0), 0);
        x.body(19, 0, 0, 0);
        due("15 the first of the longest line", x.chosen(0, 0), 19);
    }

    private static void chosenItsOwnFirst() {
        PuppetCast x = pair();
        x.body(0, 0, 0, 0);
        x.body(1, 0, 0, 0);
        x.prefer(0, 0, 1);
        due("15 what it prefers", x.chosen(0, 0), 1);
        x.own(0, 0, 0, 0);
        due("15 its own before what it prefers", x.chosen(0, 0), OWN);
        x.leave(0, 0, 0);
        x.leave(0, 1, 0);
        due("15 its own, alone", x.chosen(0, 0), OWN);
        due("15 of another act", x.chosen(0, 1), NOTHING);
    }

    private static void chosenPreferred() {
        PuppetCast x = pair();
        x.body(0, 0, 0, 0);
        x.prefer(0, 0, 1);
        due("15 it prefers one that offers nothing", x.chosen(0, 0), 0);
        x.body(1, 3, 0, 0);
        x.rename(0, 1, 3, 0);
        due("15 it prefers one that offers what is renamed", x.chosen(0, 0), 1);
        x.prefer(0, 3, 1);
        due("15 what is renamed is not offered, though preferred", x.chosen(0, 3), NOTHING);
        x.prefer(0, 0, NONE);
        due("15 it prefers none", x.chosen(0, 0), 0);
        x.trait(NONE, NONE, NONE);
        x.body(2, 0, 0, 0);
        x.prefer(0, 0, 2);
        due("15 it prefers one out of the line", x.chosen(0, 0), 0);
        x.takes(0, 2);
        due("15 which then is in the line", x.chosen(0, 0), 2);
    }

    private static void chosenPreferredThatOffersNone() {
        PuppetCast x = pair();
        x.body(0, 0, 0, 0);
        x.need(1, 0, 0);
        x.prefer(0, 0, 1);
        due("15 it prefers a need", x.chosen(0, 0), 0);
        x.need(0, 0, 0);
        due("15 needs alone", x.chosen(0, 0), MISSING);
        x.body(1, 0, 0, 0);
        due("15 a body", x.chosen(0, 0), 1);
        x.leave(0, 1, 0);
        due("15 it prefers what is left out", x.chosen(0, 0), MISSING);
        x.leave(0, 0, 0);
        due("15 all are left out", x.chosen(0, 0), NOTHING);
    }

    private static void chosenFirst() {
        PuppetCast x = pair();
        x.body(1, 0, 0, 0);
        due("15 the only one", x.chosen(0, 0), 1);
        x.need(0, 0, 0);
        due("15 behind a need", x.chosen(0, 0), 1);
        x.body(0, 0, 0, 0);
        due("15 the first", x.chosen(0, 0), 0);
        x.leave(0, 0, 0);
        due("15 the first is left out", x.chosen(0, 0), 1);
    }

    private static void missingOrNothing() {
        PuppetCast x = pair();
        x.trait(NONE, NONE, NONE);
        x.need(2, 0, 0);
        due("15 a need out of the line", x.chosen(0, 0), NOTHING);
        x.need(1, 0, 0);
        due("15 a need", x.chosen(0, 0), MISSING);
        x.rename(0, 1, 0, 7);
        due("15 a need renamed", x.chosen(0, 0), NOTHING);
        due("15 to that name", x.chosen(0, 7), MISSING);
        x.need(1, 3, 0);
        x.leave(0, 1, 3);
        due("15 a need left out", x.chosen(0, 3), NOTHING);
        x.guard(1, 4, 1);
        due("15 a guard alone", x.chosen(0, 4), NOTHING);
    }

    private static void offersOfRenamed() {
        PuppetCast x = Scenes.chain(1);
        x.body(0, 0, 0, 1);
        x.body(0, 1, 0, 2);
        x.rename(0, 0, 0, 1);
        due("15 renamed, not to be found under the act", x.chosen(0, 0), NOTHING);
        due("15 renamed, before its body of the name", x.about(0, 1, 0), 1);
        x.rename(0, 0, 1, 0);
        due("15 back: its body of the name is the act's", x.about(0, 0, 0), 2);
        due("15 back: the other one stays", x.about(0, 1, 0), 1);
        x.body(0, 5, 0, 3);
        x.rename(0, 0, 4, 5);
        due("15 an act without a body is renamed to it, so nothing is offered", x.chosen(0, 5), NOTHING);
        x.body(0, 4, 0, 0);
        due("15 what comes later is", x.about(0, 5, 0), 0);
        x.character(0);
        x.takes(1, 0);
        due("15 another character renames nothing", x.about(1, 0, 0), 1);
    }

    private static void offersOfLeftOut() {
        PuppetCast x = Scenes.chain(2);
        x.body(0, 0, 0, 1);
        x.body(0, 1, 0, 2);
        x.body(1, 1, 0, 3);
        x.leave(0, 1, 1);
        due("15 left out of one trait, not of another", x.about(0, 1, 0), 2);
        due("15 of one act, not of another", x.chosen(0, 0), 0);
        x.leave(0, 0, 0);
        x.rename(0, 0, 0, 1);
        due("15 what is left out is renamed", x.about(0, 1, 0), 1);
        x.leave(0, 0, 1);
        due("15 the name is left out, not what is renamed to it", x.about(0, 1, 0), 1);
        x.character(0);
        x.takes(1, 1);
        due("15 another character leaves nothing out", x.chosen(1, 1), 1);
    }

    // ---- promise 16

    private static void clashNumbers() {
        company.bounds("16 character", 0, 1, 1, 0, (x, n) -> x.clash(n, 4));
        company.bounds("16 act", 0, 0, 11, 0, (x, n) -> x.clash(0, n));
    }

    private static void clashInCase3Alone() {
        PuppetCast x = pair();
        x.body(0, 0, 0, 0);
        due("16 one alone", x.clash(0, 0), 0);
        x.need(1, 0, 0);
        due("16 a need is none of these", x.clash(0, 0), 0);
        x.prefer(0, 0, 1);
        x.body(1, 0, 0, 0);
        due("16 preferred", x.clash(0, 0), 0);
        x.prefer(0, 0, 0);
        due("16 the first is preferred", x.clash(0, 0), 0);
        x.prefer(0, 0, NONE);
        due("16 none is preferred", x.clash(0, 0), 1);
        x.own(0, 0, 0, 0);
        due("16 its own", x.clash(0, 0), 0);
        PuppetCast y = pair();
        y.trait(NONE, NONE, NONE);
        y.takes(0, 2);
        y.body(0, 0, 0, 0);
        y.body(2, 0, 0, 0);
        y.need(1, 0, 0);
        y.prefer(0, 0, 1);
        due("16 a need is preferred", y.clash(0, 0), 1);
        y.leave(0, 2, 0);
        due("16 the other one is left out", y.clash(0, 0), 0);
        y.body(2, 5, 0, 0);
        y.rename(0, 2, 5, 0);
        due("16 another one is renamed to it", y.clash(0, 0), 1);
    }

    private static void clashUnderAtWhateverHeight() {
        PuppetCast x = Scenes.chain(20);
        x.body(19, 0, 0, 0);
        x.body(0, 0, 0, 0);
        due("16 nineteen steps", x.clash(0, 0), 0);
        for (int t = 1; t < 19; t++) {
            x.body(t, 0, 0, 0);
        }
        due("16 all of the line", x.clash(0, 0), 0);
        PuppetCast y = Scenes.loose(2);
        y.trait(0, NONE, NONE);
        y.trait(2, 1, NONE);
        y.character(0);
        y.takes(0, 3);
        y.body(2, 0, 0, 0);
        y.body(0, 0, 0, 0);
        due("16 the first one is not the one taken", y.clash(0, 0), 0);
        y.body(1, 0, 0, 0);
        due("16 one beside it", y.clash(0, 0), 1);
        y.body(3, 0, 0, 0);
        due("16 a first one that stands under all", y.clash(0, 0), 0);
        y.leave(0, 3, 0);
        y.leave(0, 2, 0);
        due("16 beside the last", y.clash(0, 0), 1);
    }

    private static void clashOfNarrower() {
        for (int low = 0; low < 4; low++) {
            for (int high = 0; high < 4; high++) {
                int want = high > low ? 2 : 0;
                PuppetCast x = pair();
                x.body(0, 0, 0, high);
                x.body(1, 0, 0, low);
                x.prefer(0, 0, 1);
                due("16 preferred " + low + " behind body " + high, x.clash(0, 0), want);
                x.need(0, 0, high);
                due("16 preferred " + low + " behind need " + high, x.clash(0, 0), want);
                x.prefer(0, 0, NONE);
                due("16 first " + low + " behind need " + high, x.clash(0, 0), want);
                x.own(0, 0, 0, low);
                due("16 own " + low + " and need " + high, x.clash(0, 0), want);
                x.leave(0, 0, 0);
                due("16 own " + low + ", the narrower one is left out", x.clash(0, 0), 0);
                x.need(0, 9, high);
                x.rename(0, 0, 9, 0);
                due("16 own " + low + ", another is renamed to it", x.clash(0, 0), want);
            }
        }
    }

    private static void clashLeastReason() {
        PuppetCast x = pair();
        x.body(0, 0, 0, 0);
        x.body(1, 0, 0, 3);
        due("16 both", x.clash(0, 0), 1);
        x.prefer(0, 0, 0);
        due("16 the second", x.clash(0, 0), 2);
        x.body(0, 0, 0, 3);
        due("16 none", x.clash(0, 0), 0);
        x.prefer(0, 0, NONE);
        due("16 the first", x.clash(0, 0), 1);
    }

    private static void clashOfNothing() {
        PuppetCast x = pair();
        due("16 nothing", x.clash(0, 0), 0);
        x.need(0, 0, 3);
        x.need(1, 0, 0);
        due("16 missing", x.clash(0, 0), 0);
        x.body(0, 1, 0, 0);
        x.body(1, 1, 0, 3);
        x.leave(0, 0, 1);
        x.leave(0, 1, 1);
        due("16 all left out", x.clash(0, 1), 0);
        PuppetCast y = new PuppetCast();
        y.character(0);
        due("16 without traits", y.clash(0, 0), 0);
        y.own(0, 0, 0, 0);
        due("16 without traits, its own", y.clash(0, 0), 0);
    }

    // ---- promise 17

    private static void aboutNumbers() {
        company.bounds("17 character", 0, 0, 1, 0, (x, n) -> x.about(n, 4, 0));
        company.bounds("17 act", 0, 1, 11, 3, (x, n) -> x.about(0, n, 0));
        company.bounds("17 what", 0, 1, 4, 1, (x, n) -> x.about(0, 0, n));
        company.asks("17 reach", 1, x -> x.about(0, 0, 1));
        company.asks("17 ops", 2, x -> x.about(0, 0, 2));
        company.asks("17 bridges", 1, x -> x.about(0, 0, 3));
        company.refuses("17 what 5 of nothing", BAD, x -> x.about(0, 10, 5));
        company.refuses("17 what -1 of nothing", BAD, x -> x.about(0, 10, -1));
        PuppetCast x = Scenes.allOps();
        due("17 eight ops", x.about(1, 5, 2), 8);
        x.op(4, 1, 0);
        due("17 still eight ops", x.about(1, 5, 2), 8);
    }

    private static void aboutNothing() {
        for (int what = 0; what < 4; what++) {
            int each = what;
            company.asks("17 nothing, " + what, NONE, x -> x.about(0, 10, each));
            company.asks("17 missing, " + what, NONE, x -> x.about(0, 2, each));
        }
        company.asks("17 no guards of nothing", 0, x -> x.about(0, 10, 4));
        PuppetCast x = Scenes.company();
        x.guard(0, 10, 1);
        x.guard(2, 2, 1);
        due("17 a guard of nothing", x.about(0, 10, 4), 1);
        due("17 a guard of what is missing", x.about(0, 2, 4), 1);
        x.body(0, 4, 0, 0);
        due("17 of what clashes", x.about(0, 4, 0), 0);
    }

    private static void bridges() {
        for (int own = 0; own < 4; own++) {
            PuppetCast x = Scenes.chain(8);
            x.own(0, 0, 0, own);
            due("17 its own alone, " + own, x.about(0, 0, 3), 0);
            for (int t = 0; t < 8; t++) {
                x.body(t, 0, 0, t / 2);
                due("17 of " + own + ", up to " + t / 2, x.about(0, 0, 3), Math.min(own, t / 2 + 1));
            }
            for (int t = 0; t < 8; t++) {
                x.need(t, 0, t / 2);
            }
            due("17 of " + own + ", needs", x.about(0, 0, 3), own);
            x.leave(0, 0, 0);
            due("17 of " + own + ", one of two left out", x.about(0, 0, 3), own);
            x.leave(0, 1, 0);
            due("17 of " + own + ", both left out", x.about(0, 0, 3), Math.max(0, own - 1));
            x.need(1, 5, 0);
            x.rename(0, 1, 5, 0);
            due("17 of " + own + ", one renamed to it", x.about(0, 0, 3), own);
        }
    }

    private static void guardCount() {
        PuppetCast x = Scenes.chain(20);
        due("17 no guards", x.about(0, 0, 4), 0);
        for (int t = 0; t < 20; t++) {
            x.guard(t, 0, t % 3);
            due("17 guards", x.about(0, 0, 4), t + 1);
        }
        x.guard(19, 0, 0);
        due("17 twenty guards", x.about(0, 0, 4), 20);
        due("17 of another act", x.about(0, 1, 4), 0);
    }

    // ---- promise 18

    private static void aboveNumbers() {
        company.bounds("18 character", 0, 0, 1, 0, (x, n) -> x.above(n, 0, 1));
        company.bounds("18 act", 0, 0, 11, NONE, (x, n) -> x.above(0, n, 1));
        company.bounds("18 steps", 0, 1, 30, NONE, (x, n) -> x.above(0, 0, n));
        company.refuses("18 steps 31 of nothing", BAD, x -> x.above(0, 10, 31));
        company.asks("18 steps 0 of nothing", NONE, x -> x.above(0, 10, 0));
        company.asks("18 steps 0 of what is missing", NONE, x -> x.above(0, 2, 0));
        company.asks("18 steps 30 of nothing", NONE, x -> x.above(0, 10, 30));
    }

    private static void aboveToTheEnd() {
        PuppetCast x = Scenes.chain(20);
        for (int t = 0; t < 20; t++) {
            x.body(t, 0, 0, 0);
        }
        for (int steps = 0; steps < 20; steps++) {
            due("18 steps " + steps, x.above(0, 0, steps), 19 - steps);
        }
        due("18 beyond the last", x.above(0, 0, 20), NONE);
        x.own(0, 0, 0, 0);
        due("18 its own", x.above(0, 0, 0), OWN);
        for (int steps = 1; steps < 21; steps++) {
            due("18 from its own, steps " + steps, x.above(0, 0, steps), 20 - steps);
        }
        due("18 from its own, beyond the last", x.above(0, 0, 21), NONE);
        due("18 from its own, thirty", x.above(0, 0, 30), NONE);
        x.own(0, 1, 0, 0);
        due("18 its own alone", x.above(0, 1, 0), OWN);
        due("18 nothing above it", x.above(0, 1, 1), NONE);
    }

    private static void abovePassesOver() {
        PuppetCast x = Scenes.chain(6);
        for (int t = 0; t < 6; t++) {
            x.body(t, 0, 0, 0);
        }
        x.need(4, 0, 0);
        due("18 a need", x.above(0, 0, 1), 3);
        x.leave(0, 3, 0);
        due("18 what is left out", x.above(0, 0, 1), 2);
        x.rename(0, 2, 0, 1);
        due("18 what is renamed away", x.above(0, 0, 1), 1);
        x.body(2, 5, 0, 0);
        x.rename(0, 2, 5, 0);
        due("18 what is renamed to it", x.above(0, 0, 1), 2);
        x.prefer(0, 0, 1);
        due("18 from what is preferred", x.above(0, 0, 0), 1);
        due("18 those behind it", x.above(0, 0, 1), 0);
        due("18 none of those before it", x.above(0, 0, 2), NONE);
        PuppetCast y = pair();
        y.body(0, 0, 0, 0);
        y.body(1, 0, 0, 0);
        due("18 of what clashes", y.above(0, 0, 1), 1);
    }

    // ---- promise 19

    private static void guardsNumbers() {
        company.bounds("19 character", 0, 1, 1, 1, (x, n) -> x.guards(n, 0, 0));
        company.bounds("19 act", 0, 1, 11, NONE, (x, n) -> x.guards(0, n, 0));
        company.asks("19 the first i behind the last", NONE, x -> x.guards(0, 0, 1));
        company.asks("19 i MAX", NONE, x -> x.guards(0, 0, MAX));
        company.refuses("19 i -1", BAD, x -> x.guards(0, 0, -1));
        company.refuses("19 i MIN", BAD, x -> x.guards(0, 0, MIN));
        company.refuses("19 i -1 of none", BAD, x -> x.guards(0, 10, -1));
        company.asks("19 i 0 of none", NONE, x -> x.guards(0, 10, 0));
    }

    private static void guardsToTheEnd() {
        PuppetCast x = Scenes.chain(20);
        for (int t = 0; t < 20; t++) {
            x.guard(t, 0, t % 3);
        }
        for (int i = 0; i < 20; i++) {
            due("19 guard " + i, x.guards(0, 0, i), 19 - i);
        }
        due("19 behind the last", x.guards(0, 0, 20), NONE);
    }

    private static void guardsStay() {
        PuppetCast x = Scenes.chain(3);
        x.trait(NONE, NONE, NONE);
        x.guard(2, 0, 0);
        x.guard(0, 0, 1);
        x.guard(3, 0, 2);
        x.leave(0, 2, 0);
        x.rename(0, 0, 0, 1);
        due("19 though its act is left out", x.guards(0, 0, 0), 2);
        due("19 though its act is renamed", x.guards(0, 0, 1), 0);
        due("19 none out of the line", x.guards(0, 0, 2), NONE);
        due("19 none of the name", x.guards(0, 1, 0), NONE);
        x.takes(0, 3);
        due("19 from when it is in the line", x.guards(0, 0, 2), 3);
    }

    // ---- promise 20

    private static void isANumbers() {
        company.bounds("20 character", 0, 1, 1, 1, (x, n) -> x.isA(n, 0));
        company.bounds("20 trait", 0, 1, 3, 0, (x, n) -> x.isA(0, n));
        company.refuses("20 NONE", BAD, x -> x.isA(0, NONE));
        Edges full = new Edges(checks, Scenes::allTraits);
        full.bounds("20 trait of twenty", 0, 1, 19, 0, (x, n) -> x.isA(0, n));
        Edges many = new Edges(checks, Scenes::allCharacters);
        many.bounds("20 character of twelve", 0, 1, 11, 0, (x, n) -> x.isA(n, 0));
    }

    private static void isAFromWhenOn() {
        PuppetCast x = Scenes.chain(20);
        x.character(0);
        for (int t = 0; t < 20; t++) {
            due("20 in the longest line", x.isA(0, t), 1);
            due("20 of one without traits", x.isA(1, t), 0);
        }
        x.takes(1, 5);
        due("20 what it takes", x.isA(1, 5), 1);
        due("20 what that stands under", x.isA(1, 4), 1);
        due("20 the highest", x.isA(1, 0), 1);
        due("20 what stands under it", x.isA(1, 6), 0);
        x.leave(1, 5, 0);
        due("20 leaving out changes nothing of it", x.isA(1, 5), 1);
        due("20 a refused one", x.takes(1, 6), NO);
        due("20 is not in the line", x.isA(1, 6), 0);
    }

    // ---- promise 27

    private static void countNumbers() {
        company.bounds("27 what", 0, 4, 5, 2, PuppetCast::count);
        company.asks("27 characters", 2, x -> x.count(1));
        company.asks("27 bodies", 7, x -> x.count(2));
        company.asks("27 guards", 1, x -> x.count(3));
        company.asks("27 clashes", 1, x -> x.count(4));
        Edges empty = new Edges(checks, PuppetCast::new);
        empty.bounds("27 what, of nothing", 0, 0, 5, 0, PuppetCast::count);
    }

    private static void countMost() {
        PuppetCast x = Scenes.loose(20);
        for (int i = 0; i < 240; i++) {
            x.body(i / 12, i % 12, 0, 0);
        }
        due("27 the most bodies", x.count(2), 240);
        x.need(0, 0, 0);
        x.body(19, 11, 1, 1);
        due("27 in place of others", x.count(2), 240);
        due("27 twenty", x.count(0), 20);
        PuppetCast y = Scenes.loose(20);
        for (int i = 0; i < 240; i++) {
            y.guard(i / 12, i % 12, i % 3);
        }
        due("27 the most guards", y.count(3), 240);
        y.guard(19, 11, 1);
        due("27 guards in place of others", y.count(3), 240);
        due("27 guards are no bodies", y.count(2), 0);
    }

    private static void countWithoutCharacters() {
        PuppetCast x = Scenes.loose(2);
        x.body(0, 0, 0, 0);
        x.body(1, 0, 0, 0);
        x.need(1, 1, 0);
        due("27 clashes of nobody", x.count(4), 0);
        due("27 missing of nobody", x.count(5), 0);
        due("27 bodies of traits that nobody takes", x.count(2), 3);
        x.character(0);
        due("27 one that takes nothing", x.count(4) + x.count(5), 0);
        x.own(0, 0, 0, 0);
        due("27 its own is no body of a trait", x.count(2), 3);
    }

    private static void countEachActOnce() {
        PuppetCast x = pair();
        for (int c = 1; c < 12; c++) {
            x.character(0);
            x.takes(c, 0);
            x.takes(c, 1);
        }
        for (int act = 0; act < 12; act++) {
            x.body(0, act, 0, 0);
            x.body(1, act, 0, 3);
        }
        due("27 all acts of all clash, by two reasons", x.count(4), 144);
        for (int act = 0; act < 12; act++) {
            x.need(0, act, 0);
            x.need(1, act, 3);
        }
        due("27 all acts of all are missing, by two needs", x.count(5), 144);
        due("27 and none clashes", x.count(4), 0);
        x.own(11, 11, 0, 3);
        due("27 the last is not missing", x.count(5), 143);
        x.own(0, 0, 0, 0);
        due("27 nor the first", x.count(5), 142);
        due("27 it clashes", x.count(4), 1);
    }

    // ---- promise 28

    /** Twelve acts of which nothing is chosen. */
    private static long overNothing(long start) {
        long h = start;
        for (int act = 0; act < 12; act++) {
            h = ((h * 31 - 6) * 31) * 31 - 1;
        }
        return h;
    }

    private static void digestOfMoods() {
        PuppetCast x = new PuppetCast();
        x.character(3);
        long h = overNothing(5) * 31 * 31 * 31 * 31;
        due("28 one character", x.digest(), h);
        x.setMood(0, 3, 1);
        due("28 mood 3", x.digest(), h + 1);
        x.setMood(0, 2, 1);
        due("28 mood 2", x.digest(), h + 1 + 31);
        x.setMood(0, 1, -1);
        due("28 mood 1", x.digest(), h + 1 + 31 - 31 * 31);
        x.setMood(0, 0, 2);
        due("28 mood 0", x.digest(), h + 1 + 31 - 31 * 31 + 2 * 31 * 31 * 31);
        due("28 asked again", x.digest(), x.digest());
    }

    private static void digestRunsOver() {
        PuppetCast x = new PuppetCast();
        x.character(0);
        long h = overNothing(5);
        for (int k = 0; k < 4; k++) {
            x.setMood(0, k, Long.MAX_VALUE - k);
            h = 31 * h + (Long.MAX_VALUE - k);
        }
        due("28 the greatest moods", x.digest(), h);
        h = overNothing(5);
        for (int k = 0; k < 4; k++) {
            x.setMood(0, k, Long.MIN_VALUE + k);
            h = 31 * h + (Long.MIN_VALUE + k);
        }
        due("28 the least moods", x.digest(), h);
    }

    /** What is asked one by one and what the digest tells is the same. */
    private static void digestOfMany() {
        PuppetCast x = Scenes.company();
        long h = 5;
        for (int c = 0; c < 2; c++) {
            for (int i = 0; x.line(c, i) != NONE; i++) {
                h = 31 * h + x.line(c, i);
            }
            for (int act = 0; act < 12; act++) {
                h = 31 * h + x.chosen(c, act);
                h = 31 * h + x.clash(c, act);
                h = 31 * h + x.about(c, act, 3);
            }
            for (int k = 0; k < 4; k++) {
                h = 31 * h + x.mood(c, k);
            }
        }
        due("28 the company", x.digest(), h);
        due("28 the last of twelve characters tells, too", Scenes.allCharacters().digest() == h ? 1 : 0, 0);
        PuppetCast y = new PuppetCast();
        long all = 5;
        for (int c = 0; c < 12; c++) {
            y.character(0);
            all = overNothing(all) * 31 * 31 * 31 * 31;
        }
        due("28 twelve", y.digest(), all);
    }
}
