/** Promises 1 to 12: each boundary that the document names, a function for each sentence. */
public final class BuildEdgesTest {
    private static final int NONE = PuppetCast.NONE, BAD = PuppetCast.BAD, NO = PuppetCast.NO, FULL = PuppetCast.FULL;
    private static final int MIN = Integer.MIN_VALUE, MAX = Integer.MAX_VALUE;
    private static final Checks checks = new Checks("BuildEdgesTest");
    private static final Edges company = new Edges(checks, Scenes::company);

    public static void main(String[] args) {
        newObjectHasNothing();
        newObjectRefuses();
        firstNumbers();
        traitStandsUnderTraits();
        traitNoneBehindNone();
        traitNoTwoAlike();
        traitWithoutLine();
        traitsUpToTwenty();
        troupes();
        charactersUpToTwelve();
        takesNumbers();
        takesInOrder();
        takesWithoutLine();
        takesUpToFive();
        bodyNumbers();
        bodyInPlace();
        needNumbers();
        needInPlace();
        guardNumbers();
        guardInPlace();
        ownNumbers();
        ownInPlace();
        opKinds();
        opNumbersThatAreLookedAt();
        opNumbersThatAreNot();
        opOfNothing();
        opOfTheLatest();
        opsUpToEight();
        leaveNumbers();
        leaveFirstAndLast();
        leaveUpToEight();
        renameNumbers();
        renameTwice();
        renameFirstAndLast();
        renameUpToEight();
        preferNumbers();
        preferTellsTheOneBefore();
        checks.end();
    }

    private static void due(String call, long got, long want) {
        checks.due(call, got, want);
    }

    // ---- promise 1

    private static void newObjectHasNothing() {
        PuppetCast x = new PuppetCast();
        for (int what = 0; what < 6; what++) {
            due("1 count " + what, x.count(what), 0);
        }
        for (int what = 0; what < 4; what++) {
            due("1 told " + what, x.told(what), 0);
        }
        for (int what = 0; what < 5; what++) {
            due("1 mark " + what, x.mark(0, what), 0);
        }
        due("1 marks", x.marks(), 0);
        due("1 mood", x.mood(0, 0), 0);
        due("1 digest", x.digest(), 5);
    }

    private static void newObjectRefuses() {
        Edges empty = new Edges(checks, PuppetCast::new);
        empty.refuses("1 trait", BAD, x -> x.trait(0, NONE, NONE));
        empty.refuses("1 takes", BAD, x -> x.takes(0, 0));
        empty.refuses("1 body", BAD, x -> x.body(0, 0, 0, 0));
        empty.refuses("1 need", BAD, x -> x.need(0, 0, 0));
        empty.refuses("1 guard", BAD, x -> x.guard(0, 0, 0));
        empty.refuses("1 own", BAD, x -> x.own(0, 0, 0, 0));
        empty.refuses("1 op", NO, x -> x.op(4, 0, 0));
        empty.refuses("1 leave", BAD, x -> x.leave(0, 0, 0));
        empty.refuses("1 rename", BAD, x -> x.rename(0, 0, 0, 1));
        empty.refuses("1 prefer", BAD, x -> x.prefer(0, 0, NONE));
        empty.refuses("1 lineOf", BAD, x -> x.lineOf(0, 0));
        empty.refuses("1 line", BAD, x -> x.line(0, 0));
        empty.refuses("1 chosen", BAD, x -> x.chosen(0, 0));
        empty.refuses("1 clash", BAD, x -> x.clash(0, 0));
        empty.refuses("1 about", BAD, x -> x.about(0, 0, 4));
        empty.refuses("1 above", BAD, x -> x.above(0, 0, 0));
        empty.refuses("1 guards", BAD, x -> x.guards(0, 0, 0));
        empty.refuses("1 isA", BAD, x -> x.isA(0, 0));
        empty.refuses("1 play", BAD, x -> x.play(0, 0, 1));
        empty.refuses("1 setMood", BAD, x -> x.setMood(0, 0, 1));
    }

    private static void firstNumbers() {
        Edges empty = new Edges(checks, PuppetCast::new);
        empty.changes("1 the first trait", 0, x -> x.trait(NONE, NONE, NONE));
        empty.changes("1 the first character", 0, x -> x.character(0));
    }

    // ---- promise 2

    private static void traitStandsUnderTraits() {
        company.answers("2 three others", 4, x -> x.trait(3, 0, 2));
        company.refuses("2 its own number", BAD, x -> x.trait(4, NONE, NONE));
        company.refuses("2 its own number as b", BAD, x -> x.trait(0, 4, NONE));
        company.refuses("2 its own number as c", BAD, x -> x.trait(3, 0, 4));
        Edges loose = new Edges(checks, () -> Scenes.loose(6));
        loose.bounds("2 a of six", NONE, 6, 5, 6, (x, n) -> x.trait(n, NONE, NONE));
        loose.bounds("2 b of six", NONE, 6, 5, 6, (x, n) -> x.trait(0, n, NONE));
        loose.bounds("2 c of six", NONE, 6, 5, 6, (x, n) -> x.trait(0, 1, n));
    }

    private static void traitNoneBehindNone() {
        company.changes("2 all are NONE", 4, x -> x.trait(NONE, NONE, NONE));
        company.changes("2 b and c are NONE", 4, x -> x.trait(0, NONE, NONE));
        company.changes("2 c is NONE", 4, x -> x.trait(0, 2, NONE));
        company.refuses("2 b behind NONE", BAD, x -> x.trait(NONE, 0, NONE));
        company.refuses("2 c behind NONE", BAD, x -> x.trait(0, NONE, 2));
        company.refuses("2 c behind two NONE", BAD, x -> x.trait(NONE, NONE, 0));
        company.refuses("2 b and c behind NONE", BAD, x -> x.trait(NONE, 0, 2));
    }

    private static void traitNoTwoAlike() {
        company.refuses("2 a and b", BAD, x -> x.trait(3, 3, NONE));
        company.refuses("2 a and b, and c", BAD, x -> x.trait(2, 2, 0));
        company.refuses("2 a and c", BAD, x -> x.trait(2, 0, 2));
        company.refuses("2 b and c", BAD, x -> x.trait(0, 2, 2));
        company.refuses("2 all three", BAD, x -> x.trait(0, 0, 0));
        company.refuses("2 alike, and without a line: BAD first", BAD, x -> x.trait(0, 1, 0));
        company.refuses("2 no such c, and without a line: BAD first", BAD, x -> x.trait(0, 1, 4));
    }

    private static void traitWithoutLine() {
        company.refuses("2 one before what stands under it", NO, x -> x.trait(0, 1, NONE));
        company.refuses("2 one before what stands under it at two steps", NO, x -> x.trait(0, 3, NONE));
        company.refuses("2 the third one alone is at odds", NO, x -> x.trait(2, 0, 1));
        company.answers("2 without it", 4, x -> x.trait(2, 0, NONE));
        company.answers("2 in the other order", 4, x -> x.trait(2, 1, 0));
        PuppetCast x = Scenes.company();
        x.trait(2, 1, NONE);
        due("2 rows at odds", x.trait(3, 4, NONE), NO);
        due("2 it got no number", x.trait(3, NONE, NONE), 5);
        due("2 and no line", x.lineOf(5, 0), 5);
    }

    private static void traitsUpToTwenty() {
        PuppetCast x = new PuppetCast();
        for (int t = 0; t < 20; t++) {
            due("2 the twentieth fits", x.trait(t - 1, NONE, NONE), t);
        }
        Edges full = new Edges(checks, Scenes::allTraits);
        full.refuses("2 the 21st", FULL, y -> y.trait(NONE, NONE, NONE));
        full.refuses("2 the 21st, under the twentieth", FULL, y -> y.trait(19, NONE, NONE));
        full.refuses("2 under a 21st: BAD before FULL", BAD, y -> y.trait(20, NONE, NONE));
        full.refuses("2 alike: BAD before FULL", BAD, y -> y.trait(5, 5, NONE));
        full.refuses("2 behind NONE: BAD before FULL", BAD, y -> y.trait(NONE, 5, NONE));
        full.refuses("2 no line: NO before FULL", NO, y -> y.trait(0, 1, NONE));
        full.refuses("2 alike, no line, full: BAD first", BAD, y -> y.trait(0, 1, 0));
        full.answers("2 twenty", 20, y -> y.count(0));
    }

    // ---- promise 3

    private static void troupes() {
        company.bounds("3 troupe", 0, 2, 3, 2, PuppetCast::character);
        for (int troupe = 0; troupe < 4; troupe++) {
            for (int other = 0; other < 4; other++) {
                PuppetCast x = new PuppetCast();
                x.character(troupe);
                x.character(other);
                x.own(0, 0, 0, 0);
                x.op(8, 1, 0);
                x.own(1, 0, 1, 0);
                due("3 troupe " + troupe + " cues " + other, x.play(0, 0, 1), troupe == other ? 0 : 3);
            }
        }
    }

    private static void charactersUpToTwelve() {
        PuppetCast x = new PuppetCast();
        for (int c = 0; c < 12; c++) {
            due("3 the twelfth fits", x.character(3), c);
        }
        due("3 twelve", x.count(1), 12);
        Edges full = new Edges(checks, Scenes::allCharacters);
        full.refuses("3 the 13th", FULL, y -> y.character(0));
        full.refuses("3 no troupe: BAD before FULL", BAD, y -> y.character(4));
        full.refuses("3 troupe -1: BAD before FULL", BAD, y -> y.character(-1));
        full.answers("3 still twelve", 12, y -> y.count(1));
    }

    // ---- promise 4

    private static void takesNumbers() {
        company.bounds("4 character", 0, 3, 1, 2, (x, n) -> x.takes(n, 0));
        company.bounds("4 trait", 0, 2, 3, BAD, (x, n) -> x.takes(1, n));
        Edges loose = new Edges(checks, () -> {
            PuppetCast x = Scenes.loose(4);
            x.character(0);
            return x;
        });
        loose.bounds("4 trait of four", 0, 1, 3, 1, (x, n) -> x.takes(0, n));
        company.refuses("4 it takes it, the first", BAD, x -> x.takes(0, 1));
        company.refuses("4 it takes it, the last", BAD, x -> x.takes(0, 2));
        company.changes("4 another character takes it", 2, x -> x.takes(1, 1));
        company.changes("4 it is in the line, but not taken", 3, x -> x.takes(0, 0));
    }

    private static void takesInOrder() {
        PuppetCast x = Scenes.loose(5);
        x.character(0);
        int[] order = {3, 0, 4, 1, 2};
        for (int i = 0; i < 5; i++) {
            due("4 how many", x.takes(0, order[i]), i + 1);
            due("4 the last one", x.line(0, i), order[i]);
        }
        for (int i = 0; i < 5; i++) {
            due("4 in order", x.line(0, i), order[i]);
        }
    }

    private static void takesWithoutLine() {
        company.refuses("4 behind what stands over it", NO, x -> x.takes(0, 3));
        PuppetCast x = Scenes.loose(2);
        x.trait(0, 1, NONE);
        x.trait(1, 0, NONE);
        x.character(0);
        due("4 one of two at odds", x.takes(0, 2), 1);
        due("4 the other one", x.takes(0, 3), NO);
        due("4 it is not taken, so it is not BAD", x.takes(0, 3), NO);
        due("4 its line stays", x.line(0, 0), 2);
        due("4 to its end", x.line(0, 3), NONE);
        due("4 it does not count", x.takes(0, 0), 2);
    }

    private static void takesUpToFive() {
        PuppetCast x = Scenes.loose(6);
        x.character(0);
        x.character(0);
        for (int t = 0; t < 5; t++) {
            due("4 the fifth fits", x.takes(0, t), t + 1);
        }
        due("4 another one takes its own five", x.takes(1, 5), 1);
        Edges full = new Edges(checks, Scenes::allTaken);
        full.refuses("4 the sixth", FULL, y -> y.takes(0, 7));
        full.refuses("4 the sixth, though it is in the line", FULL, y -> y.takes(0, 0));
        full.refuses("4 it takes it: BAD before FULL", BAD, y -> y.takes(0, 6));
        full.refuses("4 no such trait: BAD before FULL", BAD, y -> y.takes(0, 8));
        full.refuses("4 no line: NO before FULL", NO, y -> y.takes(0, 3));
    }

    // ---- promises 5 and 6

    private static void bodyNumbers() {
        company.bounds("5 trait", 0, 1, 3, 1, (x, n) -> x.body(n, 0, 0, 0));
        company.bounds("5 act", 0, 1, 11, 1, (x, n) -> x.body(0, n, 0, 0));
        company.bounds("5 reach", 0, 1, 2, 1, (x, n) -> x.body(0, 0, n, 0));
        company.bounds("5 result", 0, 1, 3, 1, (x, n) -> x.body(0, 0, 0, n));
        for (int reach = 0; reach < 3; reach++) {
            for (int result = 0; result < 4; result++) {
                PuppetCast x = Scenes.chain(1);
                x.body(0, 11, reach, result);
                due("5 reach " + reach, x.about(0, 11, 1), reach);
                due("5 result " + result, x.about(0, 11, 0), result);
            }
        }
    }

    private static void bodyInPlace() {
        PuppetCast x = Scenes.chain(1);
        x.body(0, 3, 2, 3);
        x.op(4, 1, 0);
        x.guard(0, 3, 1);
        x.op(4, 10, 0);
        x.op(12, 0, 0);
        due("5 in place of a body", x.body(0, 3, 1, 2), 1);
        due("5 without ops", x.about(0, 3, 2), 0);
        due("5 its reach", x.about(0, 3, 1), 1);
        due("5 its result", x.about(0, 3, 0), 2);
        due("5 the guard stays", x.play(0, 3, 1), 0);
        due("5 with its ops", x.told(0), 11);
        x.need(0, 3, 3);
        due("5 in place of a need", x.body(0, 3, 0, 0), 1);
        due("5 the need's result is gone", x.clash(0, 3), 0);
        due("5 one body", x.count(2), 1);
    }

    private static void needNumbers() {
        company.bounds("6 trait", 0, 1, 3, 1, (x, n) -> x.need(n, 0, 0));
        company.bounds("6 act", 0, 1, 11, 1, (x, n) -> x.need(0, n, 0));
        company.bounds("6 result", 0, 1, 3, 1, (x, n) -> x.need(0, 0, n));
        for (int result = 0; result < 4; result++) {
            PuppetCast x = Scenes.chain(2);
            x.need(1, 0, result);
            for (int chosen = 0; chosen < 4; chosen++) {
                x.body(0, 0, 0, chosen);
                due("6 need of " + result + ", clash at " + chosen, x.clash(0, 0), result > chosen ? 2 : 0);
                due("6 need of " + result + ", bridges at " + chosen, x.about(0, 0, 3), result < chosen ? 1 : 0);
            }
        }
    }

    private static void needInPlace() {
        PuppetCast x = Scenes.chain(1);
        x.body(0, 3, 2, 3);
        x.op(4, 1, 0);
        due("6 in place of a body", x.need(0, 3, 1), 1);
        due("6 no ops come to it", x.op(4, 1, 0), NO);
        due("6 missing", x.chosen(0, 3), -5);
        due("6 in place of a need", x.need(0, 3, 2), 1);
        due("6 one", x.count(2), 1);
        x.own(0, 3, 0, 1);
        due("6 the result of the later one", x.clash(0, 3), 2);
    }

    // ---- promise 7

    private static void guardNumbers() {
        company.bounds("7 trait", 0, 1, 3, 1, (x, n) -> x.guard(n, 0, 0));
        company.bounds("7 act", 0, 1, 11, 1, (x, n) -> x.guard(0, n, 0));
        company.bounds("7 sort", 0, 1, 2, 1, (x, n) -> x.guard(0, 0, n));
        int[] firstMarks = {1, 1, 2}, marks = {2, 1, 2};
        for (int sort = 0; sort < 3; sort++) {
            PuppetCast x = Scenes.chain(1);
            x.body(0, 0, 0, 0);
            x.op(0, 2, 0);
            x.guard(0, 0, sort);
            x.op(0, 1, 0);
            x.play(0, 0, 5);
            due("7 sort " + sort + ", what is done", x.marks(), marks[sort]);
            due("7 sort " + sort + ", what is done first", x.mark(0, 3), firstMarks[sort]);
        }
    }

    private static void guardInPlace() {
        PuppetCast x = Scenes.chain(1);
        x.body(0, 0, 0, 0);
        x.op(4, 1, 0);
        x.guard(0, 0, 1);
        x.op(4, 10, 0);
        due("7 in place of a guard", x.guard(0, 0, 0), 1);
        due("7 the body stays", x.about(0, 0, 2), 1);
        x.play(0, 0, 0);
        due("7 without ops, of the new sort", x.told(0), 1);
        due("7 one guard", x.count(3), 1);
        due("7 one guard of the act", x.about(0, 0, 4), 1);
    }

    // ---- promise 8

    private static void ownNumbers() {
        company.bounds("8 character", 0, 1, 1, 1, (x, n) -> x.own(n, 0, 0, 0));
        company.bounds("8 act", 0, 1, 11, 1, (x, n) -> x.own(0, n, 0, 0));
        company.bounds("8 reach", 0, 1, 2, 1, (x, n) -> x.own(0, 0, n, 0));
        company.bounds("8 result", 0, 1, 3, 1, (x, n) -> x.own(0, 0, 0, n));
    }

    private static void ownInPlace() {
        for (int reach = 0; reach < 3; reach++) {
            for (int result = 0; result < 4; result++) {
                PuppetCast x = new PuppetCast();
                x.character(0);
                x.own(0, 11, 2 - reach, 3 - result);
                x.op(4, 1, 0);
                due("8 in place", x.own(0, 11, reach, result), 1);
                due("8 reach " + reach, x.about(0, 11, 1), reach);
                due("8 result " + result, x.about(0, 11, 0), result);
                due("8 without ops", x.about(0, 11, 2), 0);
            }
        }
        PuppetCast x = Scenes.company();
        x.own(0, 4, 0, 0);
        due("8 of one character", x.chosen(0, 4), 100);
        due("8 not of another", x.chosen(1, 4), 2);
        due("8 the traits keep theirs", x.count(2), 7);
    }

    // ---- promise 9

    private static void opKinds() {
        company.bounds("9 kind", 0, 2, 12, 2, (x, n) -> x.op(n, 0, 0));
        for (int kind = 0; kind <= 12; kind++) {
            int each = kind;
            company.changes("9 kind " + kind, 2, x -> x.op(each, 0, 0));
        }
    }

    private static void opNumbersThatAreLookedAt() {
        for (int kind : new int[] {1, 2, 3}) {
            company.bounds("9 mood of kind " + kind, 0, 2, 3, 2, (x, n) -> x.op(kind, n, MIN));
        }
        for (int kind : new int[] {5, 10}) {
            company.bounds("9 act of kind " + kind, 0, 2, 11, 2, (x, n) -> x.op(kind, n, MAX));
        }
        company.bounds("9 trait of BY", 0, 2, 19, 2, (x, n) -> x.op(7, n, -1));
        company.bounds("9 character of CUE", 0, 2, 11, 2, (x, n) -> x.op(8, n, 11));
        company.bounds("9 act of CUE", 0, 2, 11, 2, (x, n) -> x.op(8, 11, n));
        company.refuses("9 both of CUE", BAD, x -> x.op(8, 12, 12));
    }

    private static void opNumbersThatAreNot() {
        for (int kind : new int[] {0, 4, 6, 9, 11, 12}) {
            for (int n : new int[] {MIN, -1, 20, MAX}) {
                company.answers("9 any a of kind " + kind, 2, x -> x.op(kind, n, 0));
            }
        }
        for (int kind = 0; kind <= 12; kind++) {
            int each = kind;
            for (int n : new int[] {MIN, -1, 12, MAX}) {
                company.answers("9 b of kind " + kind, kind == 8 ? BAD : 2, x -> x.op(each, 0, n));
            }
        }
    }

    private static void opOfNothing() {
        Edges loose = new Edges(checks, () -> Scenes.loose(1));
        loose.refuses("9 nothing was made", NO, x -> x.op(4, 1, 0));
        loose.refuses("9 nothing was made: BAD before NO", BAD, x -> x.op(13, 1, 0));
        loose.refuses("9 a mood that is none: BAD before NO", BAD, x -> x.op(1, 4, 0));
        Edges behindNeed = new Edges(checks, () -> {
            PuppetCast x = Scenes.allOps();
            x.need(0, 9, 0);
            return x;
        });
        behindNeed.refuses("9 a need since", NO, x -> x.op(4, 1, 0));
        behindNeed.refuses("9 a need since: BAD before NO", BAD, x -> x.op(5, 12, 0));
        PuppetCast x = Scenes.company();
        due("9 a refused need", x.need(0, 12, 0), BAD);
        due("9 is none", x.op(4, 1, 0), 2);
        x.need(0, 9, 0);
        due("9 a refused body", x.body(0, 12, 0, 0), BAD);
        due("9 makes nothing", x.op(4, 1, 0), NO);
        due("9 a refused guard", x.guard(0, 12, 0), BAD);
        due("9 makes nothing either", x.op(4, 1, 0), NO);
        due("9 a refused body of its own", x.own(0, 12, 0, 0), BAD);
        due("9 makes nothing, too", x.op(4, 1, 0), NO);
    }

    private static void opOfTheLatest() {
        PuppetCast x = Scenes.company();
        x.body(2, 0, 0, 3);
        due("9 of body()", x.op(4, 1, 0), 1);
        x.own(0, 0, 0, 3);
        due("9 of own()", x.op(4, 1, 0), 1);
        due("9 of own(), another", x.op(4, 1, 0), 2);
        x.guard(2, 0, 0);
        due("9 of guard()", x.op(4, 1, 0), 1);
        due("9 the latest, not the one asked about", x.about(0, 0, 2), 2);
        x.need(3, 9, 0);
        x.body(3, 8, 0, 0);
        due("9 of body() behind need()", x.op(4, 1, 0), 1);
        x.need(3, 9, 0);
        x.guard(3, 8, 0);
        due("9 of guard() behind need()", x.op(4, 1, 0), 1);
        x.need(3, 9, 0);
        x.own(0, 8, 0, 0);
        due("9 of own() behind need()", x.op(4, 1, 0), 1);
        x.trait(NONE, NONE, NONE);
        x.character(0);
        x.takes(0, 4);
        x.leave(0, 2, 8);
        x.rename(0, 2, 5, 6);
        x.prefer(0, 8, 2);
        x.play(0, 8, 1);
        due("9 other calls between", x.op(4, 1, 0), 2);
        due("9 refused ones between", x.own(0, 8, 3, 0), BAD);
        due("9 and it goes on", x.op(4, 1, 0), 3);
        due("9 three", x.about(0, 8, 2), 3);
    }

    private static void opsUpToEight() {
        for (int made = 0; made < 3; made++) {
            PuppetCast x = Scenes.chain(1);
            int answer = made == 0 ? x.body(0, 0, 0, 0) : made == 1 ? x.guard(0, 0, 0) : x.own(0, 0, 0, 0);
            due("9 made", answer, 1);
            for (int n = 1; n <= 8; n++) {
                due("9 the eighth fits", x.op(4, 1, 0), n);
            }
            due("9 the ninth", x.op(4, 1, 0), FULL);
            due("9 another ninth", x.op(12, 0, 0), FULL);
            due("9 BAD before FULL", x.op(13, 0, 0), BAD);
            x.own(0, 1, 0, 0);
            due("9 another body has room", x.op(4, 1, 0), 1);
        }
        Edges full = new Edges(checks, Scenes::allOps);
        full.refuses("9 the ninth", FULL, x -> x.op(4, 1, 0));
        full.refuses("9 an act that is none: BAD before FULL", BAD, x -> x.op(8, 0, 12));
        PuppetCast x = Scenes.allOps();
        x.play(1, 5, 0);
        due("9 all eight are done", x.told(0), 1 + 2 + 3 + 4 + 5 + 6 + 7 + 8);
    }

    // ---- promise 10

    private static void leaveNumbers() {
        company.bounds("10 character", 0, 1, 1, 1, (x, n) -> x.leave(n, 0, 0));
        company.bounds("10 trait", 0, 1, 3, 1, (x, n) -> x.leave(0, n, 0));
        company.bounds("10 act", 0, 1, 11, 1, (x, n) -> x.leave(0, 0, n));
        company.refuses("10 it did", 0, x -> x.leave(0, 2, 1));
        company.changes("10 another act", 1, x -> x.leave(0, 2, 2));
        company.changes("10 another trait", 1, x -> x.leave(0, 1, 1));
        company.changes("10 another character", 1, x -> x.leave(1, 2, 1));
        PuppetCast x = Scenes.loose(1);
        x.character(0);
        due("10 before it is taken", x.leave(0, 0, 11), 1);
        x.takes(0, 0);
        x.body(0, 11, 0, 0);
        due("10 from now on", x.chosen(0, 11), -6);
    }

    private static void leaveFirstAndLast() {
        PuppetCast x = Scenes.loose(20);
        for (int c = 0; c < 12; c++) {
            x.character(0);
        }
        for (int i = 0; i < 8; i++) {
            int character = i / 4 * 11, trait = i / 2 % 2 * 19, act = i % 2 * 11;
            due("10 trait " + trait + ", act " + act, x.leave(character, trait, act), 1);
            due("10 trait " + trait + ", act " + act + ", it did", x.leave(character, trait, act), 0);
        }
    }

    private static void leaveUpToEight() {
        PuppetCast x = Scenes.loose(3);
        x.character(0);
        x.character(0);
        for (int i = 0; i < 8; i++) {
            due("10 the eighth fits", x.leave(0, i % 2, i), 1);
        }
        due("10 the ninth", x.leave(0, 2, 0), FULL);
        due("10 it does not leave it out", x.leave(0, 2, 0), FULL);
        due("10 another character has its own eight", x.leave(1, 2, 0), 1);
        Edges full = new Edges(checks, Scenes::allLeft);
        full.refuses("10 the ninth", FULL, y -> y.leave(0, 0, 0));
        full.refuses("10 it did, and it is full", 0, y -> y.leave(0, 3, 6));
        full.refuses("10 no such act: BAD before FULL", BAD, y -> y.leave(0, 0, 12));
        full.refuses("10 no such trait: BAD before FULL", BAD, y -> y.leave(0, 4, 0));
        full.changes("10 another character", 1, y -> y.leave(1, 0, 0));
    }

    // ---- promise 11

    private static void renameNumbers() {
        company.bounds("11 character", 0, 1, 1, 1, (x, n) -> x.rename(n, 0, 0, 1));
        company.bounds("11 trait", 0, 1, 3, 1, (x, n) -> x.rename(0, n, 0, 1));
        company.bounds("11 act", 0, 1, 11, 1, (x, n) -> x.rename(0, 0, n, 5));
        company.bounds("11 name", 0, 1, 11, 1, (x, n) -> x.rename(0, 0, 5, n));
        for (int act = 0; act < 12; act++) {
            int each = act;
            company.refuses("11 the name is the act " + act, BAD, x -> x.rename(0, 0, each, each));
        }
    }

    private static void renameTwice() {
        company.refuses("11 the same again", NO, x -> x.rename(1, 2, 1, 3));
        company.refuses("11 to another name", NO, x -> x.rename(1, 2, 1, 4));
        company.refuses("11 another act to that name", NO, x -> x.rename(1, 2, 0, 3));
        company.refuses("11 the name is the act: BAD before NO", BAD, x -> x.rename(1, 2, 1, 1));
        company.refuses("11 the name is the act, to which something is renamed", BAD, x -> x.rename(1, 2, 3, 3));
        company.changes("11 of another character", 1, x -> x.rename(0, 2, 1, 3));
        company.changes("11 of another trait", 1, x -> x.rename(1, 1, 1, 3));
        company.changes("11 on from the name", 1, x -> x.rename(1, 2, 3, 4));
        company.changes("11 on to the act", 1, x -> x.rename(1, 2, 0, 1));
        company.changes("11 back again", 1, x -> x.rename(1, 2, 3, 1));
        company.changes("11 what is left out", 1, x -> x.rename(0, 2, 1, 0));
    }

    private static void renameFirstAndLast() {
        PuppetCast x = Scenes.loose(20);
        for (int c = 0; c < 12; c++) {
            x.character(0);
        }
        for (int i = 0; i < 8; i++) {
            int character = i / 4 * 11, trait = i / 2 % 2 * 19, act = i % 2 * 11;
            due("11 trait " + trait + ", act " + act, x.rename(character, trait, act, 11 - act), 1);
            due("11 trait " + trait + ", act " + act + ", it does", x.rename(character, trait, act, 5), NO);
            due("11 trait " + trait + ", another to that name", x.rename(character, trait, 5, 11 - act), NO);
        }
    }

    private static void renameUpToEight() {
        PuppetCast x = Scenes.loose(3);
        x.character(0);
        x.character(0);
        for (int i = 0; i < 8; i++) {
            due("11 the eighth fits", x.rename(0, i % 2, i, i + 1), 1);
        }
        due("11 the ninth", x.rename(0, 2, 0, 1), FULL);
        due("11 it does not rename it", x.rename(0, 2, 0, 1), FULL);
        due("11 nor anything to that name", x.rename(0, 2, 3, 1), FULL);
        due("11 another character has its own eight", x.rename(1, 2, 0, 1), 1);
        Edges full = new Edges(checks, Scenes::allRenamed);
        full.refuses("11 the ninth", FULL, y -> y.rename(1, 0, 0, 1));
        full.refuses("11 it renames it: NO before FULL", NO, y -> y.rename(1, 3, 0, 9));
        full.refuses("11 something to that name: NO before FULL", NO, y -> y.rename(1, 3, 8, 7));
        full.refuses("11 the name is the act: BAD before FULL", BAD, y -> y.rename(1, 0, 0, 0));
        full.refuses("11 no such name: BAD before FULL", BAD, y -> y.rename(1, 0, 0, 12));
        full.changes("11 another character", 1, y -> y.rename(0, 0, 0, 1));
    }

    // ---- promise 12

    private static void preferNumbers() {
        company.bounds("12 character", 0, NONE, 1, 2, (x, n) -> x.prefer(n, 4, 0));
        company.bounds("12 act", 0, NONE, 11, NONE, (x, n) -> x.prefer(0, n, 0));
        company.bounds("12 trait", NONE, 2, 3, 2, (x, n) -> x.prefer(1, 4, n));
        Edges full = new Edges(checks, Scenes::allTraits);
        full.bounds("12 trait of twenty", NONE, 2, 19, 2, (x, n) -> x.prefer(1, 4, n));
    }

    private static void preferTellsTheOneBefore() {
        for (int act = 0; act < 12; act++) {
            PuppetCast x = Scenes.loose(2);
            x.character(0);
            x.character(0);
            due("12 none at first, to none", x.prefer(0, act, NONE), NONE);
            due("12 none at first", x.prefer(0, act, 1), NONE);
            due("12 the one before", x.prefer(0, act, 0), 1);
            due("12 the same again", x.prefer(0, act, 0), 0);
            due("12 refused", x.prefer(0, act, 2), BAD);
            due("12 refused changes nothing", x.prefer(0, act, NONE), 0);
            due("12 none again", x.prefer(0, act, NONE), NONE);
            due("12 of another character", x.prefer(1, act, 1), NONE);
            due("12 of another act", x.prefer(1, (act + 1) % 12, 1), NONE);
        }
    }
}
