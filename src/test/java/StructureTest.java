/** Promises 1 to 12: traits, characters, and what they refuse. */
public final class StructureTest {
    private static final int NONE = PuppetCast.NONE, BAD = PuppetCast.BAD, NO = PuppetCast.NO, FULL = PuppetCast.FULL;
    private static final int MIN = Integer.MIN_VALUE, MAX = Integer.MAX_VALUE;
    private static final Checks checks = new Checks("StructureTest");

    public static void main(String[] args) {
        promise1();
        promise2();
        promise3();
        promise4();
        promise5();
        promise6();
        promise7();
        promise8();
        promise9();
        promise9Refusals();
        promise10();
        promise11();
        promise11Offers();
        promise12();
        checks.end();
    }

    private static void due(String call, long got, long want) {
        checks.due(call, got, want);
    }

    private static void promise1() {
        due("NONE", PuppetCast.NONE, -1);
        due("BAD", PuppetCast.BAD, -2);
        due("NO", PuppetCast.NO, -3);
        due("FULL", PuppetCast.FULL, -4);
        PuppetCast x = new PuppetCast();
        for (int what = 0; what <= 5; what++) {
            due("1 count(" + what + ")", x.count(what), 0);
        }
        due("1 digest", x.digest(), 5);
        due("1 marks", x.marks(), 0);
        due("1 lineOf", x.lineOf(0, 0), BAD);
        due("1 line", x.line(0, 0), BAD);
        x.trait(NONE, NONE, NONE);
        x.character(0);
        PuppetCast y = new PuppetCast();
        due("1 another object has no traits", y.count(0), 0);
        due("1 another object has no characters", y.count(1), 0);
    }

    private static void promise2() {
        PuppetCast x = new PuppetCast();
        due("2 none exists yet", x.trait(0, NONE, NONE), BAD);
        due("2 first", x.trait(NONE, NONE, NONE), 0);
        due("2 second", x.trait(0, NONE, NONE), 1);
        due("2 third", x.trait(NONE, NONE, NONE), 2);
        due("2 its own number", x.trait(3, NONE, NONE), BAD);
        due("2 a -2", x.trait(-2, NONE, NONE), BAD);
        due("2 b -2", x.trait(0, -2, NONE), BAD);
        due("2 c -2", x.trait(0, 2, -2), BAD);
        due("2 c 3", x.trait(0, 2, 3), BAD);
        due("2 a MIN", x.trait(MIN, NONE, NONE), BAD);
        due("2 b MAX", x.trait(0, MAX, NONE), BAD);
        due("2 NONE, then one", x.trait(NONE, 0, NONE), BAD);
        due("2 NONE, then one as c", x.trait(NONE, NONE, 0), BAD);
        due("2 NONE between", x.trait(0, NONE, 2), BAD);
        due("2 a and b alike", x.trait(0, 0, NONE), BAD);
        due("2 a and c alike", x.trait(0, 2, 0), BAD);
        due("2 b and c alike", x.trait(0, 2, 2), BAD);
        due("2 no line: the higher before what stands under it", x.trait(0, 1, NONE), NO);
        due("2 alike is found before no line", x.trait(0, 1, 0), BAD);
        due("2 nothing was made", x.count(0), 3);
        due("2 the other way round", x.trait(1, 0, NONE), 3);
        due("2 three others", x.trait(2, 3, 0), 4);
        due("2 rows that are at odds", x.trait(2, NONE, NONE), 5);
        due("2 2 before 1", x.trait(2, 1, NONE), 6);
        due("2 1 before 2", x.trait(1, 2, NONE), 7);
        due("2 at odds", x.trait(6, 7, NONE), NO);
        for (int t = 8; t < 20; t++) {
            due("2 up to twenty", x.trait(NONE, NONE, NONE), t);
        }
        due("2 the 21st", x.trait(NONE, NONE, NONE), FULL);
        due("2 the 21st under three", x.trait(17, 18, 19), FULL);
        due("2 BAD before FULL", x.trait(20, NONE, NONE), BAD);
        due("2 NO before FULL", x.trait(0, 1, NONE), NO);
        due("2 twenty", x.count(0), 20);
    }

    private static void promise3() {
        PuppetCast x = new PuppetCast();
        due("3 troupe -1", x.character(-1), BAD);
        due("3 troupe 4", x.character(4), BAD);
        due("3 troupe MIN", x.character(MIN), BAD);
        for (int c = 0; c < 12; c++) {
            due("3 up to twelve", x.character(c % 4), c);
        }
        due("3 the 13th", x.character(0), FULL);
        due("3 BAD before FULL", x.character(4), BAD);
        due("3 twelve", x.count(1), 12);
    }

    private static void promise4() {
        PuppetCast x = Scenes.loose(7);
        x.trait(0, NONE, NONE);
        due("4 no character", x.takes(0, 0), BAD);
        x.character(0);
        x.character(0);
        due("4 character 2", x.takes(2, 0), BAD);
        due("4 character -1", x.takes(-1, 0), BAD);
        due("4 trait 8", x.takes(0, 8), BAD);
        due("4 trait -1", x.takes(0, -1), BAD);
        due("4 trait MAX", x.takes(0, MAX), BAD);
        due("4 first", x.takes(0, 0), 1);
        due("4 again", x.takes(0, 0), BAD);
        due("4 under one that comes before it", x.takes(0, 7), NO);
        due("4 nothing was taken", x.line(0, 1), NONE);
        due("4 second", x.takes(0, 2), 2);
        due("4 third", x.takes(0, 1), 3);
        due("4 in order", x.line(0, 1), 2);
        due("4 fourth", x.takes(0, 3), 4);
        due("4 fifth", x.takes(0, 4), 5);
        due("4 sixth", x.takes(0, 5), FULL);
        due("4 NO before FULL", x.takes(0, 7), NO);
        due("4 BAD before FULL", x.takes(0, 4), BAD);
        due("4 five in the line", x.line(0, 4), 4);
        due("4 not six", x.line(0, 5), NONE);
        due("4 another character takes its own", x.takes(1, 7), 1);
        due("4 what is in the line already can be taken", x.takes(1, 0), 2);
        due("4 line", x.line(1, 1), 0);
        due("4 but once in the line", x.line(1, 2), NONE);
    }

    private static void promise5() {
        PuppetCast x = Scenes.loose(2);
        x.character(0);
        x.takes(0, 0);
        due("5 trait 2", x.body(2, 0, 0, 0), BAD);
        due("5 trait -1", x.body(-1, 0, 0, 0), BAD);
        due("5 act 12", x.body(0, 12, 0, 0), BAD);
        due("5 act -1", x.body(0, -1, 0, 0), BAD);
        due("5 reach 3", x.body(0, 0, 3, 0), BAD);
        due("5 reach -1", x.body(0, 0, -1, 0), BAD);
        due("5 result 4", x.body(0, 0, 0, 4), BAD);
        due("5 result -1", x.body(0, 0, 0, -1), BAD);
        due("5 nothing was made", x.count(2), 0);
        due("5 body", x.body(0, 0, 1, 2), 1);
        due("5 its result", x.about(0, 0, 0), 2);
        due("5 its reach", x.about(0, 0, 1), 1);
        due("5 no ops", x.about(0, 0, 2), 0);
        x.op(4, 1, 0);
        due("5 an op", x.about(0, 0, 2), 1);
        due("5 refused leaves the old one", x.body(0, 0, 3, 0), BAD);
        due("5 old result", x.about(0, 0, 0), 2);
        due("5 in place", x.body(0, 0, 2, 3), 1);
        due("5 new result", x.about(0, 0, 0), 3);
        due("5 new reach", x.about(0, 0, 1), 2);
        due("5 ops are gone", x.about(0, 0, 2), 0);
        due("5 one body", x.count(2), 1);
        due("5 act 11", x.body(0, 11, 2, 3), 1);
        due("5 another trait", x.body(1, 0, 0, 0), 1);
        due("5 three bodies", x.count(2), 3);
    }

    private static void promise6() {
        PuppetCast x = Scenes.loose(1);
        x.character(0);
        x.takes(0, 0);
        due("6 trait 1", x.need(1, 0, 0), BAD);
        due("6 act 12", x.need(0, 12, 0), BAD);
        due("6 act -1", x.need(0, -1, 0), BAD);
        due("6 result 4", x.need(0, 0, 4), BAD);
        due("6 result -1", x.need(0, 0, -1), BAD);
        due("6 nothing", x.chosen(0, 0), -6);
        due("6 need", x.need(0, 0, 3), 1);
        due("6 missing", x.chosen(0, 0), -5);
        due("6 counted", x.count(2), 1);
        x.body(0, 1, 0, 0);
        due("6 in place of a body", x.need(0, 1, 0), 1);
        due("6 the body is gone", x.chosen(0, 1), -5);
        due("6 a body in place of a need", x.body(0, 0, 0, 0), 1);
        due("6 the need is gone", x.chosen(0, 0), 0);
        due("6 its result too", x.clash(0, 0), 0);
        due("6 two", x.count(2), 2);
    }

    private static void promise7() {
        PuppetCast x = Scenes.loose(1);
        x.character(0);
        x.takes(0, 0);
        due("7 trait 1", x.guard(1, 0, 0), BAD);
        due("7 trait MIN", x.guard(MIN, 0, 0), BAD);
        due("7 act 12", x.guard(0, 12, 0), BAD);
        due("7 act -1", x.guard(0, -1, 0), BAD);
        due("7 sort 3", x.guard(0, 0, 3), BAD);
        due("7 sort -1", x.guard(0, 0, -1), BAD);
        due("7 none made", x.count(3), 0);
        for (int sort = 0; sort < 3; sort++) {
            due("7 sort " + sort, x.guard(0, sort, sort), 1);
        }
        due("7 three", x.count(3), 3);
        x.body(0, 0, 0, 0);
        x.guard(0, 0, 0);
        x.op(4, 5, 0);
        x.play(0, 0, 1);
        due("7 it is done", x.told(0), 6);
        due("7 in place", x.guard(0, 0, 2), 1);
        x.play(0, 0, 1);
        due("7 ops are gone", x.told(0), 1);
        due("7 still three", x.count(3), 3);
        due("7 a guard is no body", x.count(2), 1);
        due("7 a guard is not offered", x.chosen(0, 1), -6);
    }

    private static void promise8() {
        PuppetCast x = Scenes.loose(1);
        x.character(0);
        due("8 character 1", x.own(1, 0, 0, 0), BAD);
        due("8 character -1", x.own(-1, 0, 0, 0), BAD);
        due("8 act 12", x.own(0, 12, 0, 0), BAD);
        due("8 act -1", x.own(0, -1, 0, 0), BAD);
        due("8 reach 3", x.own(0, 0, 3, 0), BAD);
        due("8 reach -1", x.own(0, 0, -1, 0), BAD);
        due("8 result 4", x.own(0, 0, 0, 4), BAD);
        due("8 result -1", x.own(0, 0, 0, -1), BAD);
        due("8 none", x.chosen(0, 0), -6);
        due("8 own", x.own(0, 0, 1, 2), 1);
        due("8 chosen", x.chosen(0, 0), 100);
        due("8 reach", x.about(0, 0, 1), 1);
        due("8 result", x.about(0, 0, 0), 2);
        x.op(4, 1, 0);
        x.op(4, 1, 0);
        due("8 ops", x.about(0, 0, 2), 2);
        due("8 in place", x.own(0, 0, 2, 3), 1);
        due("8 no ops", x.about(0, 0, 2), 0);
        due("8 new result", x.about(0, 0, 0), 3);
        due("8 no body of a trait", x.count(2), 0);
    }

    private static void promise9() {
        PuppetCast x = Scenes.loose(1);
        x.character(0);
        x.takes(0, 0);
        due("9 nothing was made", x.op(0, 0, 0), NO);
        due("9 BAD before NO", x.op(13, 0, 0), BAD);
        x.body(0, 0, 0, 0);
        due("9 first", x.op(4, 1, 0), 1);
        due("9 second", x.op(4, 1, 0), 2);
        x.guard(0, 0, 0);
        due("9 of the guard", x.op(4, 10, 0), 1);
        due("9 the body keeps its own", x.about(0, 0, 2), 2);
        x.own(0, 1, 0, 0);
        due("9 of its own", x.op(4, 1, 0), 1);
        due("9 refused makes nothing", x.guard(0, 0, 5), BAD);
        due("9 goes on", x.op(4, 1, 0), 2);
        due("9 own ops", x.about(0, 1, 2), 2);
        due("9 a refused need", x.need(0, 12, 0), BAD);
        for (int n = 3; n <= 8; n++) {
            due("9 up to eight", x.op(4, 1, 0), n);
        }
        due("9 the ninth", x.op(4, 1, 0), FULL);
        due("9 BAD before FULL", x.op(-1, 0, 0), BAD);
        due("9 eight", x.about(0, 1, 2), 8);
        x.need(0, 3, 0);
        due("9 after need()", x.op(4, 1, 0), NO);
        due("9 BAD before NO after need()", x.op(1, 4, 0), BAD);
        x.body(0, 3, 0, 0);
        due("9 after body()", x.op(4, 1, 0), 1);
    }

    private static void promise9Refusals() {
        PuppetCast x = Scenes.loose(1);
        x.body(0, 0, 0, 0);
        due("9 kind -1", x.op(-1, 0, 0), BAD);
        due("9 kind 13", x.op(13, 0, 0), BAD);
        due("9 kind MAX", x.op(MAX, 0, 0), BAD);
        for (int kind = 1; kind <= 3; kind++) {
            due("9 mood 4", x.op(kind, 4, 0), BAD);
            due("9 mood -1", x.op(kind, -1, 0), BAD);
        }
        for (int kind : new int[] {5, 10}) {
            due("9 act 12", x.op(kind, 12, 0), BAD);
            due("9 act -1", x.op(kind, -1, 0), BAD);
        }
        due("9 trait 20", x.op(7, 20, 0), BAD);
        due("9 trait -1", x.op(7, -1, 0), BAD);
        due("9 character 12", x.op(8, 12, 0), BAD);
        due("9 character -1", x.op(8, -1, 0), BAD);
        due("9 act 12 of a cue", x.op(8, 0, 12), BAD);
        due("9 act -1 of a cue", x.op(8, 0, -1), BAD);
        due("9 mood 3", x.op(1, 3, MAX), 1);
        due("9 act 11", x.op(5, 11, MIN), 2);
        due("9 try 11", x.op(10, 11, -1), 3);
        due("9 trait 19 that is not there", x.op(7, 19, -1), 4);
        due("9 character 11 that is not there", x.op(8, 11, 11), 5);
        due("9 any a of a mark", x.op(0, MIN, MAX), 6);
        due("9 any a of plus", x.op(4, MIN, MAX), 7);
        due("9 any a of a throw", x.op(9, MAX, MIN), 8);
        x.body(0, 0, 0, 0);
        due("9 any a of above", x.op(6, MIN, MAX), 1);
        due("9 any a of if", x.op(11, MIN, MAX), 2);
        due("9 any a of within", x.op(12, MIN, MAX), 3);
    }

    private static void promise10() {
        PuppetCast x = Scenes.loose(3);
        x.character(0);
        x.character(0);
        x.takes(0, 0);
        x.takes(1, 0);
        x.body(0, 0, 0, 0);
        due("10 character 2", x.leave(2, 0, 0), BAD);
        due("10 character -1", x.leave(-1, 0, 0), BAD);
        due("10 trait 3", x.leave(0, 3, 0), BAD);
        due("10 trait -1", x.leave(0, -1, 0), BAD);
        due("10 act 12", x.leave(0, 0, 12), BAD);
        due("10 act -1", x.leave(0, 0, -1), BAD);
        due("10 chosen", x.chosen(0, 0), 0);
        due("10 leaves out", x.leave(0, 0, 0), 1);
        due("10 it did", x.leave(0, 0, 0), 0);
        due("10 not chosen", x.chosen(0, 0), -6);
        due("10 by another", x.chosen(1, 0), 0);
        x.body(0, 0, 0, 0);
        due("10 from now on", x.chosen(0, 0), -6);
        for (int act = 0; act < 7; act++) {
            due("10 up to eight, of any trait", x.leave(0, 2, act), 1);
        }
        due("10 the ninth", x.leave(0, 1, 1), FULL);
        due("10 it did, though it is full", x.leave(0, 2, 6), 0);
        due("10 BAD before FULL", x.leave(0, 3, 0), BAD);
        due("10 another character", x.leave(1, 1, 1), 1);
        x.need(0, 5, 0);
        due("10 a need", x.chosen(1, 5), -5);
        x.leave(1, 0, 5);
        due("10 a need left out", x.chosen(1, 5), -6);
    }

    private static void promise11() {
        PuppetCast x = Scenes.loose(3);
        x.character(0);
        x.character(0);
        due("11 character 2", x.rename(2, 0, 0, 1), BAD);
        due("11 character -1", x.rename(-1, 0, 0, 1), BAD);
        due("11 trait 3", x.rename(0, 3, 0, 1), BAD);
        due("11 trait -1", x.rename(0, -1, 0, 1), BAD);
        due("11 act 12", x.rename(0, 0, 12, 1), BAD);
        due("11 act -1", x.rename(0, 0, -1, 1), BAD);
        due("11 name 12", x.rename(0, 0, 0, 12), BAD);
        due("11 name -1", x.rename(0, 0, 0, -1), BAD);
        due("11 name is the act", x.rename(0, 0, 4, 4), BAD);
        due("11 renames", x.rename(0, 0, 0, 1), 1);
        due("11 the same again", x.rename(0, 0, 0, 1), NO);
        due("11 it renames it", x.rename(0, 0, 0, 2), NO);
        due("11 something to that name", x.rename(0, 0, 3, 1), NO);
        due("11 a name may be renamed", x.rename(0, 0, 1, 0), 1);
        due("11 another trait to that name", x.rename(0, 1, 3, 1), 1);
        due("11 another character", x.rename(1, 0, 3, 1), 1);
        for (int act = 0; act < 5; act++) {
            due("11 up to eight", x.rename(0, 2, act, act + 1), 1);
        }
        due("11 the ninth", x.rename(0, 2, 5, 6), FULL);
        due("11 NO before FULL", x.rename(0, 2, 0, 8), NO);
        due("11 name taken before FULL", x.rename(0, 2, 8, 1), NO);
        due("11 BAD before NO", x.rename(0, 2, 0, 0), BAD);
        due("11 nothing changed", x.rename(1, 2, 5, 6), 1);
    }

    private static void promise11Offers() {
        PuppetCast x = Scenes.loose(1);
        x.character(0);
        x.takes(0, 0);
        x.body(0, 0, 0, 1);
        x.body(0, 1, 0, 2);
        x.rename(0, 0, 0, 1);
        due("11 not under its old name", x.chosen(0, 0), -6);
        due("11 its body of m comes before its body of n", x.about(0, 1, 0), 1);
        x.leave(0, 0, 0);
        x.leave(0, 0, 1);
        due("11 leaving out does not undo renaming", x.about(0, 1, 0), 1);
        PuppetCast y = Scenes.loose(1);
        y.character(0);
        y.takes(0, 0);
        y.body(0, 1, 0, 2);
        y.rename(0, 0, 0, 1);
        due("11 what is renamed to n and has no body stands in the way of n's", y.chosen(0, 1), -6);
    }

    private static void promise12() {
        PuppetCast x = Scenes.loose(3);
        x.character(0);
        x.takes(0, 0);
        x.takes(0, 1);
        x.body(0, 0, 0, 0);
        x.body(1, 0, 0, 0);
        due("12 character 1", x.prefer(1, 0, 0), BAD);
        due("12 character -1", x.prefer(-1, 0, 0), BAD);
        due("12 act 12", x.prefer(0, 12, 0), BAD);
        due("12 act -1", x.prefer(0, -1, 0), BAD);
        due("12 trait 3", x.prefer(0, 0, 3), BAD);
        due("12 trait -2", x.prefer(0, 0, -2), BAD);
        due("12 first chosen", x.chosen(0, 0), 0);
        due("12 none at first", x.prefer(0, 0, 1), NONE);
        due("12 chosen", x.chosen(0, 0), 1);
        due("12 another", x.prefer(0, 0, 2), 1);
        due("12 that is not in the line", x.chosen(0, 0), 0);
        due("12 none", x.prefer(0, 0, NONE), 2);
        due("12 none again", x.prefer(0, 0, NONE), NONE);
        due("12 of another act", x.prefer(0, 11, 1), NONE);
    }
}
