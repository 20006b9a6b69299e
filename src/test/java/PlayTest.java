/** Promises 21 to 26: acts are played. */
public final class PlayTest {
    private static final int NONE = PuppetCast.NONE, BAD = PuppetCast.BAD;
    private static final int MARK = 0, PUT = 1, TAKE = 2, SUM = 3, PLUS = 4, ACT = 5, ABOVE = 6, BY = 7, CUE = 8;
    private static final int THROW = 9, TRY = 10, IF = 11, WITHIN = 12;
    private static final int BEFORE = 0, INSTEAD = 1, AFTER = 2;
    private static final int THROWN = 1, DEEP = 2, REACH = 3, GONE = 4, CLASH = 5, LONG = 6;
    private static final Checks checks = new Checks("PlayTest");

    public static void main(String[] args) {
        promise21();
        plainOps();
        opIf();
        opAct();
        opAbove();
        opAboveInGuards();
        opBy();
        opCue();
        reaches();
        opThrowAndTry();
        opTryOfAll();
        guardsInOrder();
        guardsInstead();
        withinTwice();
        guardsOfRenamed();
        failuresOfGuards();
        deep();
        deepByEach();
        longPlays();
        longBeforeDeep();
        promise22();
        promise23And24();
        promise25And26();
        checks.end();
    }

    private static void due(String call, long got, long want) {
        checks.due(call, got, want);
    }

    private static void duePlay(String what, PuppetCast x, int act, long value, long want) {
        due(what + ": play()", x.play(0, act, value), 0);
        due(what + ": told(0)", x.told(0), want);
    }

    private static void dueFailure(String what, PuppetCast x, int act, long value, int failure) {
        due(what + ": play()", x.play(0, act, value), failure);
        due(what + ": told(0)", x.told(0), 0);
    }

    /** Pairs of a value and the a of its mark. */
    private static void dueMarks(String what, PuppetCast x, long... pairs) {
        due(what + ": marks()", x.marks(), pairs.length / 2);
        for (int i = 0; i < pairs.length / 2; i++) {
            due(what + ": a of mark " + i, x.mark(i, 3), pairs[2 * i]);
            due(what + ": value of mark " + i, x.mark(i, 4), pairs[2 * i + 1]);
        }
    }

    private static void promise21() {
        PuppetCast x = Scenes.chain(2);
        due("21 character 1", x.play(1, 0, 0), BAD);
        due("21 character -1", x.play(-1, 0, 0), BAD);
        due("21 act 12", x.play(0, 12, 0), BAD);
        due("21 act -1", x.play(0, -1, 0), BAD);
        dueFailure("21 nothing", x, 0, 7, GONE);
        x.need(0, 0, 0);
        dueFailure("21 missing", x, 0, 7, GONE);
        x.body(0, 0, 2, 0);
        duePlay("21 no ops, reach not asked", x, 0, 7, 7);
        duePlay("21 least value", x, 0, Long.MIN_VALUE, Long.MIN_VALUE);
        x.body(1, 1, 0, 0);
        x.body(0, 1, 0, 1);
        dueFailure("21 clash", x, 1, 7, CLASH);
        due("21 a clash opens one", x.told(3), 1);
        due("21 and does nothing", x.told(2), 0);
    }

    private static void plainOps() {
        PuppetCast x = Scenes.chain(1);
        x.setMood(0, 1, Long.MAX_VALUE);
        x.body(0, 0, 0, 0);
        Scenes.ops(x, PLUS, 3, 0, PUT, 0, 0, TAKE, 1, 0, PLUS, 2, 0, MARK, 5, 0, SUM, 0, 0);
        duePlay("ops", x, 0, 10, Long.MIN_VALUE + 1 + 13);
        dueMarks("ops", x, 5, Long.MIN_VALUE + 1);
        due("ops PUT", x.mood(0, 0), 13);
        due("ops TAKE leaves the mood", x.mood(0, 1), Long.MAX_VALUE);
        due("ops done", x.told(2), 6);
        x.body(0, 1, 0, 0);
        Scenes.ops(x, PLUS, Integer.MIN_VALUE, 0, WITHIN, 0, 0);
        duePlay("ops PLUS a negative number, WITHIN in a body", x, 1, 0, Integer.MIN_VALUE);
        due("ops WITHIN in a body opens none", x.told(3), 1);
        due("ops but it is done", x.told(2), 2);
    }

    private static void opIf() {
        PuppetCast x = Scenes.chain(1);
        x.body(0, 0, 0, 0);
        Scenes.ops(x, IF, 0, 0, PLUS, 10, 0, PLUS, 100, 0);
        duePlay("IF at 1", x, 0, 1, 111);
        due("IF at 1, ops", x.told(2), 3);
        duePlay("IF at 0", x, 0, 0, 100);
        due("IF at 0, the one passed over is not done", x.told(2), 2);
        duePlay("IF at -1", x, 0, -1, 99);
        x.body(0, 1, 0, 0);
        Scenes.ops(x, IF, 0, 0, IF, 0, 0, PLUS, 5, 0, IF, 0, 0);
        duePlay("IF passes over an IF", x, 1, -10, -5);
        due("IF passes over an IF, ops", x.told(2), 3);
    }

    private static void opAct() {
        PuppetCast x = Scenes.chain(1);
        x.body(0, 0, 0, 0);
        Scenes.ops(x, PLUS, 1, 0, ACT, 1, 0, PLUS, 1, 0);
        x.body(0, 1, 2, 0);
        Scenes.ops(x, SUM, 0, 0, MARK, 4, 0);
        x.setMood(0, 0, 50);
        duePlay("ACT, of any reach", x, 0, 1, 53);
        due("ACT opens", x.told(3), 2);
        due("ACT marks with the act called", x.mark(0, 2), 1);
        x.guard(0, 1, AFTER);
        Scenes.ops(x, PLUS, 1000, 0);
        duePlay("ACT passes the guards", x, 0, 1, 1053);
        x.body(0, 2, 0, 0);
        Scenes.ops(x, PUT, 3, 0, ACT, 3, 0, PUT, 2, 0);
        dueFailure("ACT of nothing", x, 2, 9, GONE);
        due("ACT failed, what was done stays", x.mood(0, 3), 9);
        due("ACT failed, what comes behind it is not done", x.mood(0, 2), 0);
        due("ACT failed, ops", x.told(2), 2);
        due("ACT failed, open", x.told(3), 2);
    }

    private static void opAbove() {
        PuppetCast x = Scenes.chain(4);
        x.body(3, 0, 0, 0);
        Scenes.ops(x, MARK, 3, 0, ABOVE, 0, 0, PLUS, 1, 0);
        x.need(2, 0, 0);
        x.body(1, 0, 0, 0);
        Scenes.ops(x, MARK, 1, 0, ABOVE, 0, 0, PLUS, 10, 0);
        x.body(0, 0, 0, 0);
        Scenes.ops(x, MARK, 0, 0, PLUS, 100, 0);
        duePlay("ABOVE", x, 0, 5, 116);
        dueMarks("ABOVE", x, 3, 5, 1, 5, 0, 5);
        due("ABOVE, giver 0", x.mark(0, 1), 3);
        due("ABOVE, giver 1", x.mark(1, 1), 1);
        due("ABOVE, giver 2", x.mark(2, 1), 0);
        due("ABOVE opens", x.told(3), 3);
        x.own(0, 0, 0, 0);
        Scenes.ops(x, MARK, 9, 0, ABOVE, 0, 0);
        duePlay("ABOVE its own", x, 0, 5, 116);
        due("ABOVE its own, giver", x.mark(0, 1), NONE);
        x.body(0, 0, 0, 0);
        Scenes.ops(x, ABOVE, 0, 0);
        dueFailure("ABOVE the last", x, 0, 5, GONE);
        due("ABOVE the last, open", x.told(3), 5);
        x.guard(0, 0, BEFORE);
        Scenes.ops(x, MARK, 77, 0);
        x.body(0, 0, 0, 0);
        duePlay("ABOVE does not pass guards again", x, 0, 5, 16);
        due("ABOVE does not pass guards again, marks", x.marks(), 4);
        PuppetCast y = Scenes.chain(2);
        y.body(0, 5, 0, 0);
        Scenes.ops(y, MARK, 1, 0);
        y.body(1, 0, 0, 0);
        Scenes.ops(y, ABOVE, 0, 0);
        y.rename(0, 0, 5, 0);
        duePlay("ABOVE what is renamed", y, 0, 5, 5);
        due("ABOVE what is renamed: the act called", y.mark(0, 2), 0);
    }

    /** By the words of the document a guard goes on with the ops of what is chosen. */
    private static void opAboveInGuards() {
        for (int sort = 0; sort < 3; sort++) {
            PuppetCast x = Scenes.chain(3);
            x.guard(2, 0, sort);
            Scenes.ops(x, ABOVE, 0, 0);
            x.guard(1, 0, BEFORE);
            Scenes.ops(x, MARK, 8, 0);
            x.body(1, 0, 0, 0);
            Scenes.ops(x, PLUS, 1, 0, ABOVE, 0, 0);
            x.body(0, 0, 0, 0);
            Scenes.ops(x, PLUS, 10, 0);
            duePlay("ABOVE in a guard of sort " + sort, x, 0, 0, sort == INSTEAD ? 11 : 22);
            due("ABOVE in a guard passes other guards by", x.marks(), sort == INSTEAD ? 0 : 1);
            due("ABOVE in a guard opens", x.told(3), 3);
        }
    }

    private static void opBy() {
        PuppetCast x = Scenes.chain(3);
        x.trait(NONE, NONE, NONE);
        x.body(2, 0, 0, 0);
        Scenes.ops(x, BY, 0, 0, PLUS, 1, 0);
        x.body(1, 0, 0, 0);
        Scenes.ops(x, PLUS, 10, 0);
        x.body(0, 0, 0, 0);
        Scenes.ops(x, PLUS, 100, 0, MARK, 1, 0);
        x.body(3, 0, 0, 0);
        duePlay("BY", x, 0, 0, 101);
        due("BY, giver", x.mark(0, 1), 0);
        due("BY opens", x.told(3), 2);
        x.need(0, 0, 0);
        dueFailure("BY a need", x, 0, 0, GONE);
        due("BY a need opens", x.told(3), 2);
        x.body(0, 0, 0, 0);
        x.leave(0, 0, 0);
        dueFailure("BY one that offers none", x, 0, 0, GONE);
        x.body(2, 0, 0, 0);
        Scenes.ops(x, BY, 3, 0);
        dueFailure("BY one that is not in the line", x, 0, 0, GONE);
        x.body(2, 0, 0, 0);
        Scenes.ops(x, BY, 19, 0);
        dueFailure("BY one that there is not", x, 0, 0, GONE);
        x.guard(2, 0, INSTEAD);
        Scenes.ops(x, BY, 1, 0);
        duePlay("BY in a guard", x, 0, 0, 10);
        x.own(0, 0, 0, 0);
        x.guard(2, 0, INSTEAD);
        Scenes.ops(x, BY, 2, 0);
        x.body(2, 0, 0, 0);
        Scenes.ops(x, PLUS, 6, 0);
        duePlay("BY one that is not chosen", x, 0, 0, 6);
    }

    private static void opCue() {
        PuppetCast x = Scenes.chain(1);
        x.character(0);
        x.own(0, 0, 0, 0);
        Scenes.ops(x, CUE, 1, 4, PLUS, 1, 0, MARK, 2, 0);
        dueFailure("CUE of nothing", x, 0, 5, GONE);
        x.own(1, 4, 0, 0);
        Scenes.ops(x, MARK, 1, 0, PUT, 2, 0, PLUS, 10, 0);
        duePlay("CUE", x, 0, 5, 16);
        due("CUE who", x.mark(0, 0), 1);
        due("CUE act", x.mark(0, 2), 4);
        due("CUE who, behind it", x.mark(1, 0), 0);
        due("CUE mood of the other", x.mood(1, 2), 5);
        due("CUE mood of its own", x.mood(0, 2), 0);
        due("CUE opens", x.told(3), 2);
        x.own(0, 0, 0, 0);
        Scenes.ops(x, CUE, 2, 4);
        dueFailure("CUE of a character that there is not", x, 0, 5, GONE);
        due("CUE of a character that there is not opens", x.told(3), 2);
        x.character(0);
        dueFailure("CUE of one without the act", x, 0, 5, GONE);
        x.takes(1, 0);
        x.need(0, 4, 3);
        x.own(0, 0, 0, 0);
        Scenes.ops(x, CUE, 1, 4);
        dueFailure("CUE of what clashes", x, 0, 5, CLASH);
    }

    private static void reaches() {
        for (int reach = 0; reach < 3; reach++) {
            for (int troupe = 0; troupe < 2; troupe++) {
                PuppetCast x = Scenes.chain(1);
                x.character(troupe);
                x.own(0, 0, 0, 0);
                Scenes.ops(x, CUE, 1, 1);
                x.own(1, 1, reach, 0);
                Scenes.ops(x, ACT, 2, 0);
                x.own(1, 2, 2, 0);
                Scenes.ops(x, PLUS, 7, 0);
                boolean failed = reach == 2 || reach == 1 && troupe != 0;
                due("reach " + reach + " of troupe " + troupe, x.play(0, 0, 0), failed ? REACH : 0);
                due("reach " + reach + ", value", x.told(0), failed ? 0 : 7);
                due("reach " + reach + ", open", x.told(3), failed ? 2 : 3);
                due("reach " + reach + ", ops", x.told(2), failed ? 1 : 3);
            }
            PuppetCast y = Scenes.chain(1);
            y.own(0, 0, 0, 0);
            Scenes.ops(y, CUE, 0, 1);
            y.own(0, 1, reach, 0);
            duePlay("reach " + reach + " of itself", y, 0, 3, 3);
        }
        PuppetCast x = Scenes.chain(2);
        x.character(1);
        x.takes(1, 1);
        x.body(1, 1, 2, 0);
        x.body(0, 1, 0, 1);
        x.own(0, 0, 0, 0);
        Scenes.ops(x, CUE, 1, 1);
        dueFailure("a clash comes before reach", x, 0, 0, CLASH);
        x.guard(1, 1, BEFORE);
        Scenes.ops(x, MARK, 1, 0);
        x.body(1, 1, 2, 1);
        dueFailure("reach comes before guards", x, 0, 0, REACH);
        due("no guard was done", x.marks(), 0);
    }

    private static void opThrowAndTry() {
        PuppetCast x = Scenes.chain(1);
        x.body(0, 0, 0, 0);
        Scenes.ops(x, MARK, 1, 0, THROW, -8, 0, MARK, 2, 0);
        dueFailure("THROW", x, 0, 5, THROWN);
        due("THROW by", x.told(1), -8);
        due("THROW, ops", x.told(2), 2);
        dueMarks("THROW", x, 1, 5);
        x.body(0, 1, 0, 0);
        Scenes.ops(x, PLUS, 1, 0, TRY, 0, 0, MARK, 3, 0, PLUS, 1, 0);
        duePlay("TRY of what is thrown", x, 1, 5, -7);
        due("TRY, by no number", x.told(1), 0);
        dueMarks("TRY, what was done stays", x, 1, 6, 3, -8);
        due("TRY opens", x.told(3), 2);
        x.body(0, 0, 0, 0);
        Scenes.ops(x, PLUS, 3, 0);
        duePlay("TRY as ACT", x, 1, 5, 10);
        x.body(0, 2, 0, 0);
        Scenes.ops(x, TRY, 3, 0, ACT, 4, 0);
        x.body(0, 3, 0, 0);
        Scenes.ops(x, THROW, 6, 0);
        dueFailure("a caught number is not told", x, 2, 0, GONE);
        due("a caught number is not told: told(1)", x.told(1), 0);
        x.body(0, 4, 0, 0);
        Scenes.ops(x, THROW, Integer.MIN_VALUE, 0);
        dueFailure("the latest number", x, 2, 0, THROWN);
        due("the latest number: told(1)", x.told(1), Integer.MIN_VALUE);
    }

    private static void opTryOfAll() {
        PuppetCast x = Scenes.chain(2);
        x.character(1);
        x.own(1, 0, 2, 0);
        x.body(1, 0, 0, 0);
        Scenes.ops(x, TRY, 5, 0);
        x.body(1, 5, 0, 0);
        Scenes.ops(x, PUT, 1, 0, CUE, 1, 0);
        duePlay("TRY of REACH", x, 0, 4, -13);
        due("TRY of REACH, what was done stays", x.mood(0, 1), 4);
        x.body(1, 5, 0, 0);
        Scenes.ops(x, ABOVE, 0, 0);
        duePlay("TRY of what fails by 4", x, 0, 4, -14);
        x.need(1, 5, 0);
        duePlay("TRY of MISSING", x, 0, 4, -14);
        x.body(1, 5, 0, 0);
        x.need(0, 5, 1);
        duePlay("TRY of a clash", x, 0, 4, -15);
        due("TRY of a clash opens", x.told(3), 2);
        x.body(1, 6, 0, 0);
        Scenes.ops(x, TRY, 6, 0);
        dueFailure("TRY of DEEP", x, 6, 4, DEEP);
        x.body(1, 7, 0, 0);
        Scenes.ops(x, TRY, 8, 0);
        x.body(1, 8, 0, 0);
        Scenes.ops(x, TRY, 9, 0, TRY, 9, 0, TRY, 9, 0, TRY, 9, 0, TRY, 9, 0, TRY, 9, 0, TRY, 9, 0, TRY, 9, 0);
        x.body(1, 9, 0, 0);
        Scenes.ops(x, TRY, 10, 0, TRY, 10, 0, TRY, 10, 0, TRY, 10, 0, TRY, 10, 0, TRY, 10, 0, TRY, 10, 0, TRY, 10, 0);
        x.body(1, 10, 0, 0);
        Scenes.ops(x, PLUS, 1, 0, PLUS, 1, 0, PLUS, 1, 0, PLUS, 1, 0, PLUS, 1, 0, PLUS, 1, 0, PLUS, 1, 0, PLUS, 1, 0);
        duePlay("1 + 8 + 64 + 512 ops", x, 7, 4, 516);
        x.guard(1, 10, AFTER);
        Scenes.ops(x, PLUS, 1, 0);
        dueFailure("TRY of LONG", x, 7, 4, LONG);
    }

    /** Trait 3 is outermost, trait 0 innermost. */
    private static void guardsInOrder() {
        PuppetCast x = Scenes.chain(4);
        x.guard(3, 0, AFTER);
        Scenes.ops(x, MARK, 3, 0, PLUS, 1, 0);
        x.guard(2, 0, BEFORE);
        Scenes.ops(x, MARK, 2, 0, PLUS, 10, 0);
        x.guard(1, 0, AFTER);
        Scenes.ops(x, MARK, 1, 0, PLUS, 100, 0);
        x.guard(0, 0, BEFORE);
        Scenes.ops(x, MARK, 0, 0, PLUS, 1000, 0);
        x.own(0, 0, 0, 0);
        Scenes.ops(x, MARK, 9, 0, PLUS, 10000, 0);
        duePlay("guards", x, 0, 5, 11116);
        dueMarks("guards", x, 2, 5, 0, 15, 9, 1015, 1, 11015, 3, 11115);
        due("guards, giver", x.mark(0, 1), 2);
        due("guards open none", x.told(3), 1);
        due("guards, ops", x.told(2), 10);
    }

    private static void guardsInstead() {
        PuppetCast x = Scenes.chain(5);
        x.guard(4, 0, AFTER);
        Scenes.ops(x, MARK, 4, 0);
        x.guard(3, 0, BEFORE);
        Scenes.ops(x, MARK, 3, 0);
        x.guard(2, 0, INSTEAD);
        Scenes.ops(x, MARK, 2, 0, PLUS, 1, 0);
        x.guard(1, 0, BEFORE);
        Scenes.ops(x, MARK, 1, 0);
        x.guard(0, 0, AFTER);
        Scenes.ops(x, MARK, 0, 0);
        x.body(0, 0, 0, 0);
        Scenes.ops(x, MARK, 9, 0, PLUS, 10, 0);
        duePlay("INSTEAD alone", x, 0, 5, 6);
        dueMarks("INSTEAD alone", x, 3, 5, 2, 5, 4, 6);
        x.guard(2, 0, INSTEAD);
        Scenes.ops(x, PLUS, 1, 0, WITHIN, 0, 0, MARK, 2, 0);
        duePlay("WITHIN", x, 0, 5, 16);
        dueMarks("WITHIN", x, 3, 5, 1, 6, 9, 6, 0, 16, 2, 16, 4, 16);
        due("WITHIN opens", x.told(3), 2);
        x.guard(3, 0, BEFORE);
        Scenes.ops(x, WITHIN, 0, 0);
        x.guard(4, 0, AFTER);
        Scenes.ops(x, WITHIN, 0, 0);
        duePlay("WITHIN in others", x, 0, 5, 16);
        dueMarks("WITHIN in others is nothing", x, 1, 6, 9, 6, 0, 16, 2, 16);
        due("WITHIN in others opens none", x.told(3), 2);
        due("WITHIN in others is done", x.told(2), 9);
        x.guard(0, 1, INSTEAD);
        dueFailure("INSTEAD of nothing", x, 1, 5, GONE);
    }

    private static void withinTwice() {
        PuppetCast x = Scenes.chain(3);
        x.guard(2, 0, INSTEAD);
        Scenes.ops(x, WITHIN, 0, 0, WITHIN, 0, 0, PLUS, 1000, 0);
        x.guard(1, 0, INSTEAD);
        Scenes.ops(x, PLUS, 1, 0, WITHIN, 0, 0, WITHIN, 0, 0);
        x.body(0, 0, 0, 0);
        Scenes.ops(x, PLUS, 10, 0, WITHIN, 0, 0);
        duePlay("WITHIN in WITHIN, twice", x, 0, 0, 1042);
        due("WITHIN in WITHIN opens", x.told(3), 3);
        x.body(0, 0, 0, 0);
        Scenes.ops(x, THROW, 3, 0);
        dueFailure("WITHIN fails", x, 0, 0, THROWN);
        due("WITHIN fails, ops", x.told(2), 4);
    }

    private static void guardsOfRenamed() {
        PuppetCast x = Scenes.chain(1);
        x.body(0, 0, 0, 0);
        x.guard(0, 0, BEFORE);
        Scenes.ops(x, PLUS, 1, 0);
        x.guard(0, 1, BEFORE);
        Scenes.ops(x, PLUS, 10, 0);
        x.rename(0, 0, 0, 1);
        duePlay("guards of the name that is called", x, 1, 0, 10);
    }

    private static void failuresOfGuards() {
        PuppetCast x = Scenes.chain(3);
        x.guard(2, 0, AFTER);
        Scenes.ops(x, MARK, 2, 0);
        x.guard(1, 0, BEFORE);
        Scenes.ops(x, MARK, 1, 0, THROW, 4, 0);
        x.guard(0, 0, BEFORE);
        Scenes.ops(x, MARK, 0, 0);
        x.body(0, 0, 0, 0);
        Scenes.ops(x, MARK, 9, 0);
        dueFailure("a guard throws", x, 0, 5, THROWN);
        dueMarks("a guard throws, nothing else is done", x, 1, 5);
        x.guard(1, 0, AFTER);
        Scenes.ops(x, MARK, 1, 0);
        x.body(0, 0, 0, 0);
        Scenes.ops(x, THROW, 4, 0);
        dueFailure("a body throws", x, 0, 5, THROWN);
        dueMarks("a body throws, no AFTER is done", x, 0, 5);
    }

    private static void deep() {
        PuppetCast x = Scenes.chain(1);
        x.body(0, 0, 0, 0);
        Scenes.ops(x, PLUS, -1, 0, IF, 0, 0, ACT, 0, 0);
        duePlay("forty open", x, 0, 40, 0);
        due("forty open", x.told(3), 40);
        dueFailure("one more", x, 0, 41, DEEP);
        due("one more: told(3)", x.told(3), 40);
        due("one more: ops", x.told(2), 120);
        x.body(0, 1, 0, 0);
        Scenes.ops(x, PLUS, -1, 0, IF, 0, 0, ACT, 1, 0, IF, 0, 0, THROW, 1, 0);
        duePlay("what was closed is not open", x, 1, 40, 0);
        x.body(0, 2, 0, 0);
        Scenes.ops(x, ACT, 0, 0, PLUS, 39, 0, ACT, 0, 0);
        duePlay("one after the other", x, 2, 39, 0);
        due("one after the other: told(3)", x.told(3), 40);
    }

    /** Each kind that opens is DEEP at forty, before it would fail otherwise. */
    private static void deepByEach() {
        int[][] last = {{ACT, 11, 0}, {ABOVE, 0, 0}, {BY, 19, 0}, {CUE, 11, 0}, {TRY, 11, 0}};
        for (int[] op : last) {
            PuppetCast x = Scenes.chain(1);
            x.body(0, 0, 0, 0);
            Scenes.ops(x, PLUS, -1, 0, IF, 0, 0, ACT, 0, 0);
            Scenes.ops(x, op);
            dueFailure("kind " + op[0] + " at forty", x, 0, 40, DEEP);
            due("kind " + op[0] + " at forty: ops", x.told(2), 120);
            due("kind " + op[0] + " at 39", x.play(0, 0, 39), op[0] == TRY ? 0 : GONE);
            due("kind " + op[0] + " at 39: open", x.told(3), 40);
        }
        PuppetCast x = Scenes.chain(1);
        x.body(0, 0, 0, 0);
        Scenes.ops(x, MARK, 6, 0);
        x.guard(0, 0, INSTEAD);
        Scenes.ops(x, PLUS, -1, 0, IF, 0, 0, ACT, 0, 0, WITHIN, 0, 0);
        dueFailure("WITHIN at forty", x, 0, 40, DEEP);
        due("WITHIN at forty: nothing within", x.marks(), 0);
        duePlay("WITHIN at 39", x, 0, 39, 0);
        due("WITHIN at 39: marks", x.marks(), 39);
        x.guard(0, 0, BEFORE);
        Scenes.ops(x, PLUS, -1, 0, IF, 0, 0, ACT, 0, 0, WITHIN, 0, 0);
        duePlay("WITHIN in BEFORE at forty", x, 0, 40, 0);
        due("WITHIN in BEFORE at forty: open", x.told(3), 40);
    }

    private static void longPlays() {
        PuppetCast x = Scenes.chain(1);
        x.body(0, 0, 0, 0);
        Scenes.ops(x, ACT, 1, 0, ACT, 1, 0, ACT, 1, 0, ACT, 1, 0, ACT, 1, 0, ACT, 1, 0, ACT, 1, 0, ACT, 1, 0);
        x.body(0, 1, 0, 0);
        Scenes.ops(x, ACT, 2, 0, ACT, 2, 0, ACT, 2, 0, ACT, 2, 0, ACT, 2, 0, ACT, 2, 0, ACT, 2, 0, ACT, 2, 0);
        x.body(0, 2, 0, 0);
        for (int n = 1; n <= 8; n++) {
            x.op(PLUS, 1, 0);
        }
        x.play(0, 1, 0);
        due("8 + 64 ops", x.told(2), 72);
        x.play(0, 0, 0);
        due("8 + 64 + 512 = 584 ops", x.told(2), 584);
        due("584 ops, value", x.told(0), 512);
        x.body(0, 3, 0, 0);
        Scenes.ops(x, ACT, 0, 0, MARK, 1, 0, MARK, 1, 0, MARK, 1, 0, MARK, 1, 0, MARK, 1, 0, MARK, 1, 0, ACT, 4, 0);
        x.body(0, 4, 0, 0);
        for (int n = 1; n <= 8; n++) {
            x.op(PLUS, 1, 0);
        }
        duePlay("600 ops", x, 3, 0, 520);
        due("600 ops: told(2)", x.told(2), 600);
        due("600 ops: marks", x.marks(), 6);
        x.guard(0, 3, AFTER);
        duePlay("a guard without ops", x, 3, 0, 520);
        x.op(IF, 0, 0);
        dueFailure("601 ops", x, 3, 0, LONG);
        due("601 ops: told(2)", x.told(2), 600);
        due("601 ops: told(1)", x.told(1), 0);
        due("601 ops: what was done stays", x.marks(), 6);
        x.guard(0, 3, AFTER);
        Scenes.ops(x, THROW, 3, 0);
        dueFailure("601st would throw", x, 3, 0, LONG);
        x.guard(0, 3, AFTER);
        Scenes.ops(x, ACT, 11, 0);
        dueFailure("601st would fail by 4", x, 3, 0, LONG);
        due("601st would fail by 4: it opens none", x.told(3), 4);
        x.guard(0, 4, BEFORE);
        Scenes.ops(x, THROW, 9, 0);
        dueFailure("a throw before that", x, 3, 0, THROWN);
        x.body(0, 4, 0, 0);
        Scenes.ops(x, PLUS, 1, 0, PLUS, 1, 0, PLUS, 1, 0, PLUS, 1, 0, PLUS, 1, 0, PLUS, -600, 0, IF, 0, 0, PLUS, 1, 0);
        x.guard(0, 4, BEFORE);
        x.guard(0, 3, AFTER);
        Scenes.ops(x, MARK, 5, 0);
        duePlay("one passed over leaves room for another", x, 3, 0, -83);
        due("one passed over leaves room for another: told(2)", x.told(2), 600);
    }

    /** The 601st op, with forty open, would open one more. */
    private static void longBeforeDeep() {
        PuppetCast x = Scenes.chain(1);
        x.body(0, 0, 0, 0);
        Scenes.ops(x, ACT, 0, 0);
        x.guard(0, 0, BEFORE);
        for (int n = 1; n <= 8; n++) {
            x.op(PLUS, 0, 0);
        }
        dueFailure("9 ops at each height", x, 0, 0, DEEP);
        due("9 ops at each height: told(2)", x.told(2), 360);
        x.body(0, 0, 0, 0);
        Scenes.ops(x, PLUS, 0, 0, PLUS, 0, 0, PLUS, 0, 0, PLUS, 0, 0, PLUS, 0, 0, PLUS, 0, 0, ACT, 0, 0);
        dueFailure("the 600th is too deep", x, 0, 0, DEEP);
        due("the 600th is too deep: told(2)", x.told(2), 600);
        x.body(0, 1, 0, 0);
        Scenes.ops(x, PLUS, 0, 0, PLUS, 0, 0, PLUS, 0, 0, PLUS, 0, 0, PLUS, 0, 0, PLUS, 0, 0, PLUS, 0, 0, ACT, 0, 0);
        x.guard(0, 1, BEFORE);
        for (int n = 1; n <= 8; n++) {
            x.op(PLUS, 0, 0);
        }
        dueFailure("the 601st would be too deep", x, 1, 0, LONG);
        due("the 601st would be too deep: told(2)", x.told(2), 600);
        due("the 601st would be too deep: told(3)", x.told(3), 40);
    }

    private static void promise22() {
        PuppetCast x = Scenes.chain(1);
        for (int what = -1; what < 6; what++) {
            due("22 before any", x.told(what), 0);
        }
        x.body(0, 0, 0, 0);
        Scenes.ops(x, ACT, 1, 0);
        x.body(0, 1, 0, 0);
        Scenes.ops(x, PLUS, 1, 0);
        x.play(0, 0, 6);
        due("22 value", x.told(0), 7);
        due("22 not thrown", x.told(1), 0);
        due("22 ops", x.told(2), 2);
        due("22 open", x.told(3), 2);
        due("22 what 4", x.told(4), 0);
        due("22 what -1", x.told(-1), 0);
        due("22 what MAX", x.told(Integer.MAX_VALUE), 0);
        x.play(0, 12, 6);
        x.play(1, 0, 6);
        due("22 a refused play changes nothing", x.told(0), 7);
        due("22 a refused play changes nothing, ops", x.told(2), 2);
        due("22 a refused play changes nothing, open", x.told(3), 2);
        x.play(0, 5, 6);
        due("22 failed", x.told(0), 0);
        due("22 failed, ops", x.told(2), 0);
        due("22 failed, open", x.told(3), 1);
    }

    private static void promise23And24() {
        PuppetCast x = Scenes.chain(1);
        x.character(3);
        x.takes(1, 0);
        due("23 before any", x.marks(), 0);
        due("24 before any", x.mark(0, 0), 0);
        x.body(0, 7, 0, 0);
        Scenes.ops(x, MARK, -5, 0, PLUS, 1, 0, MARK, Integer.MAX_VALUE, 0);
        x.play(1, 7, Long.MIN_VALUE);
        due("23 marks", x.marks(), 2);
        long[] want = {1, 0, 7, -5, Long.MIN_VALUE, 1, 0, 7, Integer.MAX_VALUE, Long.MIN_VALUE + 1};
        for (int i = 0; i < 10; i++) {
            due("24 mark(" + i / 5 + ", " + i % 5 + ")", x.mark(i / 5, i % 5), want[i]);
        }
        due("24 what 5", x.mark(0, 5), 0);
        due("24 what -1", x.mark(1, -1), 0);
        due("24 mark 2", x.mark(2, 2), 0);
        due("24 mark -1", x.mark(-1, 2), 0);
        due("24 mark MAX", x.mark(Integer.MAX_VALUE, 4), 0);
        due("24 mark MIN", x.mark(Integer.MIN_VALUE, Integer.MAX_VALUE), 0);
        x.play(1, 12, 0);
        due("23 a refused play keeps the tape", x.marks(), 2);
        x.play(1, 0, 0);
        due("23 a play that fails empties it", x.marks(), 0);
        due("24 nothing is left", x.mark(0, 2), 0);
        x.body(0, 0, 0, 0);
        Scenes.ops(x, ACT, 1, 0, ACT, 1, 0, ACT, 1, 0, ACT, 2, 0, PLUS, 1, 0);
        x.body(0, 1, 0, 0);
        Scenes.ops(x, ACT, 2, 0, ACT, 2, 0, ACT, 2, 0, ACT, 2, 0, ACT, 2, 0, ACT, 2, 0, ACT, 2, 0, ACT, 2, 0);
        x.body(0, 2, 0, 0);
        for (int n = 1; n <= 8; n++) {
            x.op(MARK, n, 0);
        }
        x.play(0, 0, 3);
        due("23 two hundred at most", x.marks(), 200);
        due("23 the play goes on", x.told(0), 4);
        due("23 marks that are not kept are done", x.told(2), 5 + 24 + 200);
        due("24 the last", x.mark(199, 3), 8);
        due("24 none behind", x.mark(200, 3), 0);
        x.body(0, 0, 0, 0);
        Scenes.ops(x, ACT, 1, 0, ACT, 1, 0, ACT, 1, 0, ACT, 2, 0, ACT, 2, 0);
        x.play(0, 0, 3);
        due("23 still two hundred", x.marks(), 200);
        due("24 the last again", x.mark(199, 3), 8);
    }

    private static void promise25And26() {
        PuppetCast x = Scenes.chain(1);
        x.character(0);
        for (int k = 0; k < 4; k++) {
            due("25 at first", x.mood(0, k), 0);
            due("26 set", x.setMood(0, k, 10L * k - Long.MAX_VALUE), 1);
        }
        for (int k = 0; k < 4; k++) {
            due("25 then", x.mood(0, k), 10L * k - Long.MAX_VALUE);
            due("25 of another", x.mood(1, k), 0);
        }
        due("25 mood 4", x.mood(0, 4), 0);
        due("25 mood -1", x.mood(0, -1), 0);
        due("25 character 2", x.mood(2, 0), 0);
        due("25 character -1", x.mood(-1, 0), 0);
        due("26 mood 4", x.setMood(0, 4, 1), BAD);
        due("26 mood -1", x.setMood(0, -1, 1), BAD);
        due("26 character 2", x.setMood(2, 0, 1), BAD);
        due("26 character -1", x.setMood(-1, 0, 1), BAD);
        due("26 nothing changed", x.mood(0, 0), -Long.MAX_VALUE);
    }
}
