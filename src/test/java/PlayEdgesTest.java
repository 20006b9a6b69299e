/** Promises 21 to 26: each boundary that the document names, a function for each sentence. */
public final class PlayEdgesTest {
    private static final int NONE = PuppetCast.NONE, BAD = PuppetCast.BAD;
    private static final int MIN = Integer.MIN_VALUE, MAX = Integer.MAX_VALUE;
    private static final long LEAST = Long.MIN_VALUE, MOST = Long.MAX_VALUE;
    private static final int MARK = 0, PUT = 1, TAKE = 2, SUM = 3, PLUS = 4, ACT = 5, ABOVE = 6, BY = 7, CUE = 8;
    private static final int THROW = 9, TRY = 10, IF = 11, WITHIN = 12;
    private static final int BEFORE = 0, INSTEAD = 1, AFTER = 2;
    private static final int THROWN = 1, DEEP = 2, REACH = 3, GONE = 4, CLASH = 5, LONG = 6;
    private static final Checks checks = new Checks("PlayEdgesTest");
    private static final Edges company = new Edges(checks, Scenes::company);

    public static void main(String[] args) {
        playNumbers();
        playPassesAnyValue();
        playFailsByClash();
        playOfNothing();
        playAsksNoReach();
        playEmptiesTheTape();
        playKeepsWhatWasDone();
        clashBeforeAll();
        reachOfCues();
        reachOfCallers();
        reachIsThatOfTheChosen();
        reachIsAskedOfCuesAlone();
        guardsOrder();
        guardsPassTheValue();
        withinInnermost();
        withinNext();
        withinElsewhere();
        markTwoHundred();
        markGivers();
        moodsOfOps();
        sumRunsOver();
        plusRunsOver();
        aboveFails();
        aboveInGuard();
        byFails();
        byGoesOn();
        cueFails();
        throwNumbers();
        tryTakesAway();
        tryOfThrown();
        tryLeaves();
        ifAtOne();
        ifPassesOver();
        ifLast();
        deepAtForty();
        deepOfEach();
        deepCountsFailed();
        longAt600();
        longIsOfOnePlay();
        longBeforeAllElse();
        toldNumbers();
        toldOfTheLatest();
        toldOfFailures();
        marksAndTheirNumbers();
        moodNumbers();
        setMoodNumbers();
        checks.end();
    }

    private static void due(String call, long got, long want) {
        checks.due(call, got, want);
    }

    private static void duePlay(String what, PuppetCast x, int act, long value, long want) {
        due(what + ": play()", x.play(0, act, value), 0);
        due(what + ": told(0)", x.told(0), want);
    }

    private static void dueFailure(String what, PuppetCast x, int act, long value, int failure) {
        due(what + ": play()", x.play(0, act, value), failure);
        due(what + ": told(0)", x.told(0), 0);
    }

    /** Characters of these troupes, without traits. */
    private static PuppetCast soloists(int... troupes) {
        PuppetCast x = new PuppetCast();
        for (int troupe : troupes) {
            x.character(troupe);
        }
        return x;
    }

    /** Character 0 with a body of its own for act 0, to which ops come. */
    private static PuppetCast soloist(int... ops) {
        PuppetCast x = soloists(0);
        x.own(0, 0, 0, 0);
        Scenes.ops(x, ops);
        return x;
    }

    /** Act 9 of character 0 does 8 ops, all MARKS; act 8 calls it 8 times: 72 ops; act 7 calls that 8 times: 584 ops. */
    private static PuppetCast wide() {
        PuppetCast x = soloists(0);
        for (int act = 7; act < 9; act++) {
            x.own(0, act, 0, 0);
            Scenes.times(x, 8, ACT, act + 1, 0);
        }
        x.own(0, 9, 0, 0);
        Scenes.times(x, 8, MARK, 1, 0);
        return x;
    }

    // ---- promise 21: calling

    private static void playNumbers() {
        company.bounds("21 character", 0, THROWN, 1, THROWN, (x, n) -> x.play(n, 11, 4));
        company.bounds("21 act", 0, 0, 11, THROWN, (x, n) -> x.play(0, n, 4));
        Edges many = new Edges(checks, Scenes::allCharacters);
        many.bounds("21 character of twelve", 0, THROWN, 11, GONE, (x, n) -> x.play(n, 11, 4));
        PuppetCast x = Scenes.company();
        due("21 act 12", x.play(0, 12, 9), BAD);
        due("21 refused, the tape stays", x.marks(), 1);
        due("21 refused, the number stays", x.told(1), 6);
    }

    private static void playPassesAnyValue() {
        PuppetCast x = soloist();
        for (long value : new long[] {LEAST, LEAST + 1, MIN - 1L, -1, 0, 1, MAX + 1L, MOST - 1, MOST}) {
            duePlay("21 no ops", x, 0, value, value);
        }
    }

    private static void playFailsByClash() {
        PuppetCast x = Scenes.loose(2);
        x.character(0);
        x.takes(0, 0);
        x.takes(0, 1);
        x.body(0, 0, 0, 0);
        duePlay("21 one alone", x, 0, 3, 3);
        x.need(1, 0, 0);
        duePlay("21 with a need as wide", x, 0, 3, 3);
        x.need(1, 0, 1);
        dueFailure("21 with a narrower need", x, 0, 3, CLASH);
        x.body(1, 0, 0, 0);
        dueFailure("21 with another one", x, 0, 3, CLASH);
        x.prefer(0, 0, 1);
        duePlay("21 preferred", x, 0, 3, 3);
    }

    private static void playOfNothing() {
        PuppetCast x = Scenes.chain(1);
        dueFailure("21 nothing", x, 0, 3, GONE);
        due("21 nothing: ops", x.told(2), 0);
        due("21 nothing: open", x.told(3), 1);
        x.need(0, 0, 3);
        dueFailure("21 missing", x, 0, 3, GONE);
        x.guard(0, 0, INSTEAD);
        Scenes.ops(x, MARK, 1, 0);
        dueFailure("21 missing, with a guard instead", x, 0, 3, GONE);
        due("21 missing: the guard is not done", x.marks(), 0);
        x.guard(0, 1, BEFORE);
        Scenes.ops(x, MARK, 1, 0);
        dueFailure("21 nothing, with a guard before", x, 1, 3, GONE);
        due("21 nothing: the guard is not done", x.marks(), 0);
    }

    private static void playAsksNoReach() {
        for (int reach = 0; reach < 3; reach++) {
            PuppetCast x = soloists(3);
            x.own(0, 0, reach, 0);
            duePlay("21 reach " + reach, x, 0, 3, 3);
        }
    }

    private static void playEmptiesTheTape() {
        PuppetCast x = soloist(MARK, 1, 0, MARK, 2, 0);
        x.play(0, 0, 7);
        due("21 two marks", x.marks(), 2);
        x.play(0, 0, 8);
        due("21 again two", x.marks(), 2);
        due("21 new ones", x.mark(0, 4), 8);
        x.own(0, 1, 0, 0);
        x.play(0, 1, 8);
        due("21 none", x.marks(), 0);
        due("21 none to be told", x.mark(0, 4), 0);
        x.play(0, 0, 8);
        x.play(0, 2, 8);
        due("21 none where nothing is chosen", x.marks(), 0);
    }

    private static void playKeepsWhatWasDone() {
        PuppetCast x = soloist(PUT, 0, 0, MARK, 1, 0, THROW, 3, 0, PUT, 1, 0, MARK, 2, 0);
        dueFailure("21 thrown", x, 0, 7, THROWN);
        due("21 what was put before it stays", x.mood(0, 0), 7);
        due("21 what was marked before it stays", x.marks(), 1);
        due("21 nothing is put behind it", x.mood(0, 1), 0);
    }

    // ---- clashes, reach

    private static void clashBeforeAll() {
        PuppetCast x = Scenes.chain(2);
        x.character(1);
        x.own(1, 0, 0, 0);
        Scenes.ops(x, CUE, 0, 0);
        x.body(1, 0, 2, 0);
        due("21 reach", x.play(1, 0, 1), REACH);
        x.body(0, 0, 0, 1);
        x.guard(1, 0, BEFORE);
        Scenes.ops(x, THROW, 1, 0);
        due("21 a clash before reach and guards", x.play(1, 0, 1), CLASH);
        due("21 ops", x.told(2), 1);
        x.body(1, 0, 2, 1);
        due("21 reach before guards", x.play(1, 0, 1), REACH);
        due("21 ops", x.told(2), 1);
        x.body(1, 0, 0, 1);
        due("21 then guards", x.play(1, 0, 1), THROWN);
        x.need(1, 0, 1);
        due("21 and the other one is chosen", x.play(1, 0, 1), THROWN);
        x.need(0, 0, 1);
        due("21 missing before guards", x.play(1, 0, 1), GONE);
    }

    private static void reachOfCues() {
        int[][] due = {{0, 0, 0}, {0, 0, REACH}, {0, REACH, REACH}};
        for (int reach = 0; reach < 3; reach++) {
            for (int who = 0; who < 3; who++) {
                PuppetCast x = soloists(2, 2, 3);
                x.own(0, 0, 0, 0);
                Scenes.ops(x, CUE, who, 1);
                x.own(who, 1, reach, 0);
                due("21 reach " + reach + " of character " + who, x.play(0, 0, 1), due[reach][who]);
            }
        }
    }

    /** Character 0 cues 1, and this cues 0 again: then 1 is the caller. */
    private static void reachOfCallers() {
        PuppetCast x = soloists(0, 1);
        x.own(0, 0, 0, 0);
        Scenes.ops(x, CUE, 1, 0);
        x.own(1, 0, 0, 0);
        Scenes.ops(x, CUE, 0, 1);
        x.own(0, 1, 2, 0);
        dueFailure("21 back to what is INNER", x, 0, 1, REACH);
        x.own(0, 1, 1, 0);
        dueFailure("21 back to what is of its TROUPE", x, 0, 1, REACH);
        x.own(1, 0, 0, 0);
        Scenes.ops(x, ACT, 1, 0);
        x.own(1, 1, 2, 0);
        duePlay("21 ACT of a character that was cued", x, 0, 1, 1);
        x.own(1, 0, 0, 0);
        Scenes.ops(x, CUE, 1, 1);
        duePlay("21 a CUE of itself, by one that was cued", x, 0, 1, 1);
    }

    private static void reachIsThatOfTheChosen() {
        PuppetCast x = Scenes.chain(2);
        x.character(1);
        x.own(1, 0, 0, 0);
        Scenes.ops(x, CUE, 0, 0);
        x.body(1, 0, 0, 0);
        Scenes.ops(x, ABOVE, 0, 0);
        x.body(0, 0, 2, 0);
        due("21 above it is INNER", x.play(1, 0, 1), 0);
        x.body(1, 0, 2, 0);
        x.body(0, 0, 0, 0);
        due("21 above it is PUBLIC", x.play(1, 0, 1), REACH);
        x.prefer(0, 0, 0);
        due("21 what is PUBLIC is preferred", x.play(1, 0, 1), 0);
        x.own(0, 0, 1, 0);
        due("21 its own is of its TROUPE", x.play(1, 0, 1), REACH);
    }

    private static void reachIsAskedOfCuesAlone() {
        PuppetCast x = Scenes.chain(2);
        x.body(0, 0, 2, 0);
        x.body(1, 0, 2, 0);
        x.body(1, 1, 0, 0);
        Scenes.ops(x, ACT, 0, 0, TRY, 0, 0);
        duePlay("21 ACT and TRY of what is INNER", x, 1, 1, 1);
        x.body(1, 0, 2, 0);
        Scenes.ops(x, ABOVE, 0, 0, BY, 0, 0);
        duePlay("21 ABOVE and BY of what is INNER", x, 0, 1, 1);
    }

    // ---- guards

    /** Mark 2 is that of the outer guard, 1 that of the inner one, 0 that of what is innermost. */
    private static void guardsOrder() {
        String[][] due = {{"210", "21", "201"}, {"2", "2", "2"}, {"102", "12", "012"}};
        for (int outer = 0; outer < 3; outer++) {
            for (int inner = 0; inner < 3; inner++) {
                PuppetCast x = Scenes.chain(2);
                x.own(0, 0, 0, 0);
                Scenes.ops(x, MARK, 0, 0);
                x.guard(0, 0, inner);
                Scenes.ops(x, MARK, 1, 0);
                x.guard(1, 0, outer);
                Scenes.ops(x, MARK, 2, 0);
                x.play(0, 0, 5);
                StringBuilder done = new StringBuilder();
                for (int i = 0; i < x.marks(); i++) {
                    done.append(x.mark(i, 3));
                }
                boolean isSo = done.toString().equals(due[outer][inner]);
                due("21 sort " + outer + " around sort " + inner + ": marks " + done, isSo ? 1 : 0, 1);
            }
        }
    }

    private static void guardsPassTheValue() {
        PuppetCast x = Scenes.chain(20);
        x.body(0, 0, 0, 0);
        Scenes.ops(x, MARK, 100, 0);
        for (int t = 0; t < 20; t++) {
            x.guard(t, 0, t % 2 == 0 ? BEFORE : AFTER);
            Scenes.ops(x, PLUS, 1, 0, MARK, t, 0);
        }
        duePlay("21 twenty guards", x, 0, 0, 20);
        for (int i = 0; i < 10; i++) {
            due("21 BEFORE, outermost first", x.mark(i, 3), 18 - 2 * i);
            due("21 AFTER, innermost first", x.mark(11 + i, 3), 1 + 2 * i);
        }
        due("21 innermost", x.mark(10, 3), 100);
        due("21 innermost, the value", x.mark(10, 4), 10);
        due("21 the last, the value", x.mark(20, 4), 20);
        due("21 guards open none", x.told(3), 1);
    }

    private static void withinInnermost() {
        PuppetCast x = Scenes.chain(1);
        x.body(0, 0, 0, 0);
        Scenes.ops(x, PLUS, 5, 0);
        x.guard(0, 0, INSTEAD);
        duePlay("21 INSTEAD without ops", x, 0, 1, 1);
        due("21 INSTEAD without ops opens none", x.told(3), 1);
        Scenes.ops(x, WITHIN, 0, 0);
        duePlay("21 WITHIN the innermost guard", x, 0, 1, 6);
        due("21 WITHIN opens", x.told(3), 2);
        Scenes.ops(x, WITHIN, 0, 0);
        duePlay("21 WITHIN twice", x, 0, 1, 11);
        due("21 WITHIN twice opens one each time", x.told(3), 2);
        x.own(0, 0, 0, 0);
        Scenes.ops(x, THROW, 4, 0);
        dueFailure("21 WITHIN fails", x, 0, 1, THROWN);
        due("21 WITHIN fails: ops", x.told(2), 2);
    }

    /** Each INSTEAD goes on with the very next guard, of whatever sort. */
    private static void withinNext() {
        PuppetCast x = Scenes.chain(20);
        x.body(0, 0, 0, 0);
        for (int t = 0; t < 20; t++) {
            x.guard(t, 0, INSTEAD);
            Scenes.ops(x, MARK, t, 0, WITHIN, 0, 0, PLUS, 1, 0);
        }
        x.guard(10, 0, BEFORE);
        Scenes.ops(x, MARK, 10, 0);
        x.guard(5, 0, AFTER);
        Scenes.ops(x, MARK, 5, 0);
        duePlay("21 twenty guards, 18 of them INSTEAD", x, 0, 0, 18);
        due("22 open", x.told(3), 19);
        int[] want = {19, 18, 17, 16, 15, 14, 13, 12, 11, 10, 9, 8, 7, 6, 4, 3, 2, 1, 0, 5};
        for (int i = 0; i < 20; i++) {
            due("21 guard " + i, x.mark(i, 3), want[i]);
        }
        due("21 the value that comes to the AFTER", x.mark(19, 4), 5);
    }

    private static void withinElsewhere() {
        for (int sort = BEFORE; sort <= AFTER; sort += 2) {
            PuppetCast x = Scenes.chain(1);
            x.body(0, 0, 0, 0);
            Scenes.ops(x, PLUS, 5, 0);
            x.guard(0, 0, sort);
            Scenes.ops(x, WITHIN, 0, 0, PLUS, 1, 0);
            duePlay("21 WITHIN in sort " + sort, x, 0, 1, 7);
            due("21 it opens none", x.told(3), 1);
            due("21 it is an op", x.told(2), 3);
        }
        PuppetCast x = Scenes.chain(2);
        x.body(0, 0, 0, 0);
        Scenes.ops(x, WITHIN, 0, 0, PLUS, 5, 0);
        x.guard(1, 0, INSTEAD);
        Scenes.ops(x, ABOVE, 0, 0, BY, 0, 0);
        x.guard(0, 0, BEFORE);
        Scenes.ops(x, PLUS, 100, 0);
        duePlay("21 WITHIN in a body that a guard INSTEAD goes to", x, 0, 1, 11);
        due("21 it opens none there", x.told(3), 2);
    }

    // ---- ops

    private static void markTwoHundred() {
        PuppetCast x = wide();
        x.own(0, 0, 0, 0);
        Scenes.ops(x, ACT, 8, 0, ACT, 8, 0, ACT, 8, 0, PUT, 0, 0, MARK, 7, 0);
        x.own(0, 1, 0, 0);
        Scenes.times(x, 7, MARK, 2, 0);
        x.own(0, 2, 0, 0);
        Scenes.ops(x, ACT, 8, 0, ACT, 8, 0, ACT, 8, 0, ACT, 1, 0, PLUS, 1, 0, MARK, 5, 0);
        duePlay("23 the 200th", x, 2, 3, 4);
        due("23 200 marks", x.marks(), 200);
        due("24 the 200th is kept", x.mark(199, 3), 5);
        due("24 its value", x.mark(199, 4), 4);
        Scenes.ops(x, MARK, 6, 0, PLUS, 1, 0);
        duePlay("23 the 201st", x, 2, 3, 5);
        due("23 still 200 marks", x.marks(), 200);
        due("24 the 200th stays", x.mark(199, 3), 5);
        due("24 there is no 201st", x.mark(200, 3), 0);
        due("24 the first stays", x.mark(0, 3), 1);
        due("22 the 201st is an op", x.told(2), 3 * 72 + 7 + 8);
        x.play(0, 0, 3);
        due("23 193 on the next tape", x.marks(), 193);
        due("24 the 193rd", x.mark(192, 3), 7);
        due("24 nothing of the tape before", x.mark(193, 3), 0);
    }

    private static void markGivers() {
        PuppetCast x = Scenes.chain(20);
        x.body(0, 11, 0, 0);
        Scenes.ops(x, MARK, MIN, 0);
        x.guard(19, 11, AFTER);
        Scenes.ops(x, MARK, MAX, 0);
        for (int c = 1; c < 12; c++) {
            x.character(0);
        }
        x.takes(11, 19);
        x.play(11, 11, LEAST);
        long[] want = {11, 0, 11, MIN, LEAST, 11, 19, 11, MAX, LEAST};
        for (int i = 0; i < 10; i++) {
            due("24 mark " + i / 5 + ", " + i % 5, x.mark(i / 5, i % 5), want[i]);
        }
        x.own(11, 11, 0, 0);
        Scenes.ops(x, MARK, 0, 0);
        x.play(11, 11, MOST);
        due("24 its own has the giver NONE", x.mark(0, 1), NONE);
        due("24 the greatest value", x.mark(0, 4), MOST);
        due("24 the guard's mark", x.mark(1, 1), 19);
    }

    private static void moodsOfOps() {
        for (int k = 0; k < 4; k++) {
            PuppetCast x = soloist(PUT, k, 0, PLUS, 1, 0, SUM, k, 0, PUT, (k + 1) % 4, 0, TAKE, k, 0);
            duePlay("21 mood " + k, x, 0, 20, 20);
            due("21 PUT " + k, x.mood(0, k), 20);
            due("21 SUM and PUT", x.mood(0, (k + 1) % 4), 41);
            due("21 no other", x.mood(0, (k + 2) % 4) + x.mood(0, (k + 3) % 4), 0);
            PuppetCast y = soloist(TAKE, k, 0);
            duePlay("21 TAKE at first", y, 0, 20, 0);
        }
    }

    private static void sumRunsOver() {
        PuppetCast x = soloist(SUM, 0, 0);
        x.setMood(0, 0, MOST);
        duePlay("21 SUM to the greatest", x, 0, 0, MOST);
        duePlay("21 SUM runs over", x, 0, 1, LEAST);
        duePlay("21 SUM of the greatest", x, 0, MOST, -2);
        x.setMood(0, 0, LEAST);
        duePlay("21 SUM to the least", x, 0, 0, LEAST);
        duePlay("21 SUM runs under", x, 0, -1, MOST);
        duePlay("21 SUM of the least", x, 0, LEAST, 0);
    }

    private static void plusRunsOver() {
        PuppetCast x = soloist(PLUS, 1, 0);
        duePlay("21 PLUS to the greatest", x, 0, MOST - 1, MOST);
        duePlay("21 PLUS runs over", x, 0, MOST, LEAST);
        PuppetCast y = soloist(PLUS, -1, 0);
        duePlay("21 PLUS runs under", y, 0, LEAST, MOST);
        duePlay("21 the greatest number", soloist(PLUS, MAX, 0), 0, MAX, 2L * MAX);
        duePlay("21 the least number", soloist(PLUS, MIN, 0), 0, MIN, 2L * MIN);
    }

    private static void aboveFails() {
        dueFailure("21 ABOVE its own, without traits", soloist(ABOVE, 0, 0), 0, 1, GONE);
        PuppetCast x = Scenes.chain(3);
        x.body(2, 0, 0, 0);
        Scenes.ops(x, ABOVE, 0, 0);
        dueFailure("21 ABOVE the only one", x, 0, 1, GONE);
        due("21 it opens", x.told(3), 2);
        x.need(1, 0, 0);
        dueFailure("21 ABOVE is a need alone", x, 0, 1, GONE);
        x.body(0, 0, 0, 0);
        Scenes.ops(x, PLUS, 1, 0);
        duePlay("21 ABOVE, behind a need", x, 0, 1, 2);
        x.leave(0, 0, 0);
        dueFailure("21 ABOVE is left out", x, 0, 1, GONE);
    }

    /** By the words of the document a guard goes to the ops of what is chosen. */
    private static void aboveInGuard() {
        for (int sort = BEFORE; sort <= AFTER; sort++) {
            PuppetCast x = Scenes.chain(2);
            x.guard(0, 0, sort);
            Scenes.ops(x, ABOVE, 0, 0);
            x.own(0, 0, 0, 0);
            Scenes.ops(x, PLUS, 1, 0, MARK, 3, 0);
            duePlay("21 ABOVE in a guard, of its own", x, 0, 0, sort == INSTEAD ? 1 : 2);
            due("21 it opens", x.told(3), 2);
            due("21 the giver is that of these ops", x.mark(0, 1), NONE);
        }
    }

    private static void byFails() {
        PuppetCast x = Scenes.chain(1);
        x.trait(NONE, NONE, NONE);
        x.body(1, 0, 0, 0);
        x.own(0, 0, 0, 0);
        Scenes.ops(x, BY, 1, 0);
        dueFailure("21 BY one that is not in the line", x, 0, 1, GONE);
        due("21 it opens", x.told(3), 2);
        x.own(0, 0, 0, 0);
        Scenes.ops(x, BY, 2, 0);
        dueFailure("21 BY one that is not there", x, 0, 1, GONE);
        x.own(0, 0, 0, 0);
        Scenes.ops(x, BY, 0, 0);
        dueFailure("21 BY one that offers none", x, 0, 1, GONE);
        x.need(0, 0, 0);
        dueFailure("21 BY one that offers a need", x, 0, 1, GONE);
        x.body(0, 0, 0, 0);
        duePlay("21 BY one that offers", x, 0, 1, 1);
        x.rename(0, 0, 0, 1);
        dueFailure("21 BY one that offers it elsewhere", x, 0, 1, GONE);
        x.body(0, 5, 0, 0);
        Scenes.ops(x, PLUS, 8, 0);
        x.rename(0, 0, 5, 0);
        duePlay("21 BY one of which another is renamed to it", x, 0, 1, 9);
    }

    private static void byGoesOn() {
        PuppetCast x = Scenes.chain(20);
        x.own(0, 0, 0, 0);
        Scenes.ops(x, BY, 19, 0);
        x.body(19, 0, 0, 0);
        Scenes.ops(x, PLUS, 1, 0, BY, 0, 0);
        x.body(0, 0, 0, 0);
        Scenes.ops(x, PLUS, 10, 0, MARK, 1, 0);
        x.body(10, 0, 0, 0);
        Scenes.ops(x, PLUS, 100, 0, ABOVE, 0, 0);
        duePlay("21 BY the first, then the last", x, 0, 0, 11);
        due("21 they open", x.told(3), 3);
        due("21 the giver", x.mark(0, 1), 0);
        x.body(19, 0, 0, 0);
        Scenes.ops(x, BY, 10, 0);
        duePlay("21 ABOVE that to which BY went", x, 0, 0, 110);
        x.body(10, 0, 0, 0);
        Scenes.ops(x, IF, 0, 0, ACT, 9, 0, PLUS, 1, 0, IF, 0, 0, BY, 19, 0);
        dueFailure("21 BY back, without an end", x, 0, 0, GONE);
    }

    private static void cueFails() {
        PuppetCast x = soloist(CUE, 1, 1);
        dueFailure("21 CUE of one that is not there", x, 0, 1, GONE);
        due("21 it opens", x.told(3), 2);
        x.character(0);
        dueFailure("21 CUE of an act that is not there", x, 0, 1, GONE);
        due("21 it opens, too", x.told(3), 2);
        x.own(1, 1, 2, 0);
        dueFailure("21 CUE out of reach", x, 0, 1, REACH);
        due("21 it opens, as well", x.told(3), 2);
        x.own(1, 1, 0, 0);
        Scenes.ops(x, PLUS, 1, 0, PUT, 3, 0);
        duePlay("21 CUE", x, 0, 1, 2);
        due("21 it is the other one's mood", x.mood(1, 3), 2);
        PuppetCast y = soloist(CUE, 11, 11);
        for (int c = 1; c < 12; c++) {
            y.character(0);
        }
        dueFailure("21 CUE of the last one", y, 0, 1, GONE);
        y.own(11, 11, 1, 0);
        duePlay("21 CUE of the last act of the last one", y, 0, 1, 1);
    }

    // ---- throwing and trying

    private static void throwNumbers() {
        for (int number : new int[] {MIN, -1, 0, 1, MAX}) {
            PuppetCast x = soloist(THROW, number, 0, MARK, 1, 0);
            dueFailure("21 THROW " + number, x, 0, 5, THROWN);
            due("22 by " + number, x.told(1), number);
            due("21 nothing behind it", x.marks(), 0);
            due("22 it is an op", x.told(2), 1);
            due("21 it opens none", x.told(3), 1);
            x.own(0, 1, 0, 0);
            Scenes.ops(x, TRY, 0, 0);
            duePlay("21 TRY of " + number, x, 1, 5, number);
            due("22 it was not thrown in the end", x.told(1), 0);
        }
    }

    private static void tryTakesAway() {
        PuppetCast x = soloist(TRY, 1, 0, MARK, 1, 0);
        duePlay("21 TRY of nothing", x, 0, 5, -14);
        due("21 it goes on", x.mark(0, 4), -14);
        due("21 it opens", x.told(3), 2);
        x.own(0, 1, 0, 0);
        duePlay("21 TRY of what does not fail", x, 0, 5, 5);
        Scenes.ops(x, PUT, 0, 0, CUE, 2, 0);
        duePlay("21 TRY of what is not there", x, 0, 5, -14);
        due("21 what was done stays", x.mood(0, 0), 5);
        x.character(0);
        x.own(1, 0, 2, 0);
        x.own(0, 1, 0, 0);
        Scenes.ops(x, CUE, 1, 0);
        duePlay("21 TRY of what is out of reach", x, 0, 5, -13);
        x.trait(NONE, NONE, NONE);
        x.takes(0, 0);
        x.need(0, 1, 1);
        duePlay("21 TRY of what clashes", x, 0, 5, -15);
    }

    private static void tryOfThrown() {
        PuppetCast x = soloist(TRY, 1, 0, TRY, 2, 0);
        x.own(0, 1, 0, 0);
        Scenes.ops(x, TRY, 2, 0, PLUS, 1, 0, ACT, 2, 0);
        x.own(0, 2, 0, 0);
        Scenes.ops(x, MARK, 1, 0, THROW, 70, 0);
        duePlay("21 thrown thrice", x, 0, 5, 70);
        due("21 with the value that each got", x.mark(1, 4), 71);
        due("21 the last", x.mark(2, 4), 70);
        due("21 three marks stay", x.marks(), 3);
        due("22 ops", x.told(2), 2 + 3 + 3 * 2);
        PuppetCast y = soloist(TRY, 1, 0, THROW, 9, 0);
        y.own(0, 1, 0, 0);
        Scenes.ops(y, THROW, 8, 0);
        dueFailure("21 thrown behind what was caught", y, 0, 5, THROWN);
        due("22 by the second number", y.told(1), 9);
    }

    /** DEEP and LONG go through a TRY. */
    private static void tryLeaves() {
        PuppetCast x = soloist(TRY, 1, 0, PUT, 0, 0);
        x.own(0, 1, 0, 0);
        Scenes.ops(x, ACT, 1, 0);
        dueFailure("21 TRY of DEEP", x, 0, 5, DEEP);
        due("21 nothing behind it", x.mood(0, 0), 0);
        PuppetCast y = wide();
        y.own(0, 0, 0, 0);
        Scenes.ops(y, TRY, 1, 0, PUT, 0, 0);
        y.own(0, 1, 0, 0);
        Scenes.ops(y, TRY, 7, 0, TRY, 9, 0, TRY, 9, 0);
        dueFailure("21 TRY of LONG", y, 0, 5, LONG);
        due("21 nothing behind it, too", y.mood(0, 0), 0);
        due("22 600 ops", y.told(2), 600);
        y.own(0, 0, 0, 0);
        Scenes.ops(y, TRY, 1, 0);
        dueFailure("21 TRY of LONG, with nothing behind it", y, 0, 5, LONG);
        x.own(0, 0, 0, 0);
        Scenes.ops(x, TRY, 1, 0);
        dueFailure("21 TRY of DEEP, with nothing behind it", x, 0, 5, DEEP);
    }

    // ---- IF

    private static void ifAtOne() {
        PuppetCast x = soloist(IF, 0, 0, MARK, 7, 0);
        for (long value : new long[] {1, 2, MAX + 1L, MOST}) {
            duePlay("21 IF at " + value, x, 0, value, value);
            due("21 it is done", x.marks(), 1);
            due("22 two ops", x.told(2), 2);
        }
        for (long value : new long[] {0, -1, MIN - 1L, LEAST, 1L << 32 | 1L << 63}) {
            duePlay("21 IF at " + value, x, 0, value, value);
            due("21 it is passed over", x.marks(), 0);
            due("22 one op", x.told(2), 1);
        }
    }

    private static void ifPassesOver() {
        int[][] passed = {{ACT, 11, 0}, {ABOVE, 0, 0}, {BY, 0, 0}, {CUE, 5, 5}, {THROW, 3, 0}, {TRY, 11, 0}, {PUT, 0, 0},
            {PLUS, 9, 0}, {IF, 0, 0}};
        for (int[] op : passed) {
            PuppetCast x = soloist(IF, 0, 0, op[0], op[1], op[2], MARK, 4, 0);
            duePlay("21 kind " + op[0] + " is passed over", x, 0, -3, -3);
            due("21 but not the one behind it", x.marks(), 1);
            due("22 two ops", x.told(2), 2);
            due("22 none is opened", x.told(3), 1);
            due("21 nothing is put", x.mood(0, 0), 0);
        }
        PuppetCast x = soloist(IF, 0, 0, MARK, 1, 0, IF, 0, 0, MARK, 2, 0, MARK, 3, 0);
        duePlay("21 twice", x, 0, 0, 0);
        due("21 one mark", x.marks(), 1);
        due("21 the last one", x.mark(0, 3), 3);
    }

    /** What is passed over is of the same body or guard. */
    private static void ifLast() {
        PuppetCast x = Scenes.chain(1);
        x.own(0, 0, 0, 0);
        Scenes.ops(x, ACT, 1, 0, MARK, 1, 0);
        x.own(0, 1, 0, 0);
        Scenes.ops(x, IF, 0, 0);
        duePlay("21 an IF that is the last", x, 0, -1, -1);
        due("21 passes over nothing of the caller's", x.marks(), 1);
        x.guard(0, 0, BEFORE);
        Scenes.ops(x, IF, 0, 0);
        x.own(0, 0, 0, 0);
        Scenes.ops(x, MARK, 1, 0);
        duePlay("21 an IF that is the last of a guard", x, 0, -1, -1);
        due("21 passes over nothing of what is within", x.marks(), 1);
    }

    // ---- DEEP and LONG

    private static void deepAtForty() {
        PuppetCast x = soloist(PLUS, -1, 0, IF, 0, 0, ACT, 0, 0);
        duePlay("21 one open", x, 0, 1, 0);
        due("22 one open", x.told(3), 1);
        duePlay("21 two open", x, 0, 2, 0);
        due("22 two open", x.told(3), 2);
        duePlay("21 39 open", x, 0, 39, 0);
        due("22 39 open", x.told(3), 39);
        duePlay("21 forty open", x, 0, 40, 0);
        due("22 forty open", x.told(3), 40);
        due("22 ops", x.told(2), 3 * 39 + 2);
        dueFailure("21 one more", x, 0, 41, DEEP);
        due("22 still forty", x.told(3), 40);
        due("22 it is an op", x.told(2), 3 * 40);
        due("22 it was not thrown", x.told(1), 0);
    }

    /** At forty open each kind that opens is DEEP, though it would fail otherwise, and no other kind is. */
    private static void deepOfEach() {
        boolean[] opens = new boolean[13];
        for (int kind : new int[] {ACT, ABOVE, BY, CUE, TRY}) {
            opens[kind] = true;
        }
        for (int kind = 0; kind <= 12; kind++) {
            PuppetCast x = soloist(PLUS, -1, 0, IF, 0, 0, ACT, 0, 0, IF, 0, 0, THROW, 5, 0);
            Scenes.ops(x, kind, kind == BY ? 7 : kind == PLUS ? 0 : 3, 3);
            int other = kind == THROW ? THROWN : 0;
            due("21 kind " + kind + " at forty", x.play(0, 0, 40), opens[kind] ? DEEP : other);
            int at39 = opens[kind] && kind != TRY ? GONE : other;
            due("21 kind " + kind + " at 39", x.play(0, 0, 39), at39);
        }
        PuppetCast y = Scenes.chain(1);
        y.body(0, 0, 0, 0);
        y.guard(0, 0, INSTEAD);
        Scenes.ops(y, PLUS, -1, 0, IF, 0, 0, ACT, 0, 0, IF, 0, 0, THROW, 5, 0, WITHIN, 0, 0);
        dueFailure("21 WITHIN at forty", y, 0, 40, DEEP);
        due("22 forty", y.told(3), 40);
        duePlay("21 WITHIN at 39", y, 0, 39, 0);
        due("22 forty, too", y.told(3), 40);
    }

    private static void deepCountsFailed() {
        for (int kind : new int[] {ACT, ABOVE, BY, CUE}) {
            PuppetCast x = soloist(kind, kind == BY ? 7 : 3, 3);
            dueFailure("21 kind " + kind + " fails", x, 0, 1, GONE);
            due("22 it was open, too", x.told(3), 2);
            due("22 it is an op, too", x.told(2), 1);
        }
        PuppetCast x = soloist(TRY, 3, 0, TRY, 3, 0);
        duePlay("21 TRY of nothing, twice", x, 0, 1, -14);
        due("22 one after the other", x.told(3), 2);
    }

    private static void longAt600() {
        PuppetCast x = wide();
        x.own(0, 0, 0, 0);
        Scenes.ops(x, ACT, 7, 0, ACT, 9, 0, PLUS, 1, 0, PLUS, 1, 0, PLUS, 1, 0, PLUS, 1, 0, PLUS, 1, 0);
        duePlay("21 599 ops", x, 0, 0, 5);
        due("22 599", x.told(2), 599);
        Scenes.ops(x, PLUS, 1, 0);
        duePlay("21 600 ops", x, 0, 0, 6);
        due("22 600", x.told(2), 600);
        x.own(0, 1, 0, 0);
        Scenes.ops(x, ACT, 7, 0, ACT, 9, 0, PUT, 0, 0, PUT, 0, 0, PUT, 0, 0, PUT, 0, 0, PUT, 0, 0, PUT, 1, 0);
        x.trait(NONE, NONE, NONE);
        x.takes(0, 0);
        x.guard(0, 1, AFTER);
        Scenes.ops(x, PUT, 2, 0);
        dueFailure("21 the 601st", x, 1, 4, LONG);
        due("22 the 601st is not done", x.told(2), 600);
        due("21 the 600th is", x.mood(0, 1), 4);
        due("21 nor is it put", x.mood(0, 2), 0);
        due("22 it was not thrown", x.told(1), 0);
        due("23 200 marks", x.marks(), 200);
    }

    private static void longIsOfOnePlay() {
        PuppetCast x = wide();
        for (int i = 0; i < 3; i++) {
            duePlay("21 584 ops each time", x, 7, 4, 4);
            due("22 584", x.told(2), 584);
        }
        x.own(0, 0, 0, 0);
        Scenes.ops(x, ACT, 7, 0, ACT, 7, 0);
        dueFailure("21 584 and again 584", x, 0, 4, LONG);
        duePlay("21 and 584 behind it", x, 7, 4, 4);
    }

    private static void longBeforeAllElse() {
        int[][] last = {{MARK, 1, 0}, {PUT, 0, 0}, {ACT, 11, 0}, {ABOVE, 0, 0}, {BY, 7, 0}, {CUE, 7, 7}, {THROW, 1, 0},
            {TRY, 11, 0}, {IF, 0, 0}, {WITHIN, 0, 0}};
        for (int[] op : last) {
            PuppetCast x = wide();
            x.own(0, 0, 0, 0);
            Scenes.ops(x, ACT, 7, 0, ACT, 1, 0, op[0], op[1], op[2]);
            x.own(0, 1, 0, 0);
            Scenes.ops(x, ACT, 9, 0, PLUS, 1, 0, PLUS, 1, 0, PLUS, 1, 0, PLUS, 1, 0);
            x.play(0, 1, 0);
            due("22 13 ops", x.told(2), 13);
            due("21 kind " + op[0] + " as the 600th", x.play(0, 0, 1) == LONG ? 1 : 0, 0);
            due("22 600 ops", x.told(2), 600);
            x.own(0, 1, 0, 0);
            Scenes.ops(x, ACT, 9, 0, PLUS, 1, 0, PLUS, 1, 0, PLUS, 1, 0, PLUS, 1, 0, PLUS, 1, 0);
            dueFailure("21 kind " + op[0] + " as the 601st", x, 0, 1, LONG);
            due("22 kind " + op[0] + " is not done", x.told(2), 600);
            due("22 kind " + op[0] + " does not throw", x.told(1), 0);
        }
    }

    // ---- promise 22

    private static void toldNumbers() {
        PuppetCast x = soloist(ACT, 1, 0, PLUS, 5, 0);
        for (int what : new int[] {MIN, -1, 0, 1, 2, 3, 4, MAX}) {
            due("22 before any, " + what, x.told(what), 0);
        }
        x.own(0, 1, 0, 0);
        x.play(0, 0, 4);
        due("22 the value", x.told(0), 9);
        due("22 not thrown", x.told(1), 0);
        due("22 ops", x.told(2), 2);
        due("22 open", x.told(3), 2);
        for (int what : new int[] {MIN, -1, 4, MAX}) {
            due("22 others, " + what, x.told(what), 0);
        }
        for (int what = -1; what < 5; what++) {
            int each = what;
            long[] want = {0, 0, 6, 2, 1, 0};
            company.asks("22 of the company, " + what, want[what + 1], y -> y.told(each));
        }
    }

    private static void toldOfTheLatest() {
        PuppetCast x = soloist(ACT, 1, 0, PLUS, 5, 0);
        x.own(0, 1, 0, 0);
        x.play(0, 0, 4);
        x.play(0, 1, 8);
        due("22 the value of the latest", x.told(0), 8);
        due("22 the ops of the latest", x.told(2), 0);
        due("22 the most open in the latest", x.told(3), 1);
        x.play(0, 0, 4);
        due("22 refused", x.play(0, -1, 9), BAD);
        due("22 refused, the value stays", x.told(0), 9);
        due("22 refused, the ops stay", x.told(2), 2);
        due("22 refused, the most open stays", x.told(3), 2);
    }

    private static void toldOfFailures() {
        PuppetCast x = soloist(THROW, 12, 0);
        x.own(0, 1, 0, 0);
        x.play(0, 1, 8);
        x.play(0, 0, 8);
        due("22 thrown, no value", x.told(0), 0);
        due("22 thrown by", x.told(1), 12);
        due("22 thrown, ops", x.told(2), 1);
        x.play(0, 2, 8);
        due("22 nothing, not thrown", x.told(1), 0);
        due("22 nothing, no ops", x.told(2), 0);
        due("22 nothing, open", x.told(3), 1);
        x.play(0, 0, 8);
        x.play(0, 1, 8);
        due("22 behind what was thrown", x.told(1), 0);
        due("22 behind what was thrown, the value", x.told(0), 8);
    }

    // ---- promises 23 to 26

    private static void marksAndTheirNumbers() {
        company.asks("23 one", 1, PuppetCast::marks);
        long[] want = {0, 0, 11, 9, 4};
        for (int what = 0; what < 5; what++) {
            int each = what;
            company.asks("24 what " + what, want[what], x -> x.mark(0, each));
            company.asks("24 what " + what + " of mark 1", 0, x -> x.mark(1, each));
            company.asks("24 what " + what + " of mark -1", 0, x -> x.mark(-1, each));
            company.asks("24 what " + what + " of mark MAX", 0, x -> x.mark(MAX, each));
            company.asks("24 what " + what + " of mark MIN", 0, x -> x.mark(MIN, each));
        }
        for (int what : new int[] {MIN, -1, 5, MAX}) {
            company.asks("24 what " + what, 0, x -> x.mark(0, what));
        }
        PuppetCast x = new PuppetCast();
        due("23 before any", x.marks(), 0);
        due("24 before any", x.mark(0, 4), 0);
    }

    private static void moodNumbers() {
        company.asks("25 mood 0", 0, x -> x.mood(0, 0));
        company.asks("25 mood 3", 5, x -> x.mood(0, 3));
        company.asks("25 of the last character", -2, x -> x.mood(1, 0));
        for (int n : new int[] {MIN, -1, 4, MAX}) {
            company.asks("25 mood " + n, 0, x -> x.mood(0, n));
        }
        for (int n : new int[] {MIN, -1, 2, MAX}) {
            company.asks("25 character " + n, 0, x -> x.mood(n, 0));
        }
        PuppetCast x = new PuppetCast();
        for (int c = 0; c < 12; c++) {
            x.character(0);
            for (int k = 0; k < 4; k++) {
                due("25 at first", x.mood(c, k), 0);
                x.setMood(c, k, 4 * c + k + 1);
            }
        }
        for (int i = 0; i < 48; i++) {
            due("25 of each its own", x.mood(i / 4, i % 4), i + 1);
        }
    }

    private static void setMoodNumbers() {
        company.bounds("26 character", 0, 1, 1, 1, (x, n) -> x.setMood(n, 3, 8));
        company.bounds("26 mood", 0, 1, 3, 1, (x, n) -> x.setMood(0, n, 8));
        Edges many = new Edges(checks, Scenes::allCharacters);
        many.bounds("26 character of twelve", 0, 1, 11, 1, (x, n) -> x.setMood(n, 3, 8));
        for (long value : new long[] {LEAST, MIN - 1L, -1, 0, 1, MAX + 1L, MOST}) {
            PuppetCast x = soloists(0);
            due("26 " + value, x.setMood(0, 3, value), 1);
            due("26 it is " + value, x.mood(0, 3), value);
        }
        PuppetCast x = Scenes.company();
        due("26 of what is not", x.setMood(0, 4, 77), BAD);
        for (int k = 0; k < 4; k++) {
            due("26 mood " + k + " stays", x.mood(0, k), k == 3 ? 5 : 0);
        }
    }
}
