/** Objects on which the tests of edges begin, and all that can be seen of one. */
final class Scenes {
    private static final int NONE = PuppetCast.NONE;

    private Scenes() { }

    /**
     * Traits 0; 1 under 0; 2; 3 under 1 and 2. Character 0, of troupe 0, has the line 1, 0, 2,
     * character 1, of troupe 3, has 3, 1, 0, 2. Latest made is a body of character 1 with one op;
     * latest played an act that put one mark on the tape and threw 6.
     */
    static PuppetCast company() {
        PuppetCast x = new PuppetCast();
        x.trait(NONE, NONE, NONE);
        x.trait(0, NONE, NONE);
        x.trait(NONE, NONE, NONE);
        x.trait(1, 2, NONE);
        x.character(0);
        x.character(3);
        x.takes(0, 1);
        x.takes(0, 2);
        x.takes(1, 3);
        x.body(0, 0, 0, 0);
        ops(x, 4, 3, 0, 0, 7, 0);
        x.body(1, 0, 1, 1);
        ops(x, 6, 0, 0, 0, 8, 0);
        x.guard(1, 0, 0);
        ops(x, 4, 10, 0);
        x.body(2, 1, 2, 0);
        ops(x, 1, 1, 0);
        x.need(2, 2, 1);
        x.body(0, 4, 0, 0);
        x.body(2, 4, 0, 0);
        x.body(0, 11, 0, 3);
        ops(x, 0, 9, 0, 9, 6, 0);
        x.leave(0, 2, 1);
        x.rename(1, 2, 1, 3);
        x.prefer(1, 4, 2);
        x.setMood(0, 3, 5);
        x.setMood(1, 0, -2);
        x.play(0, 11, 4);
        x.own(1, 5, 0, 2);
        ops(x, 4, 1, 0);
        return x;
    }

    /** The company with twenty traits. */
    static PuppetCast allTraits() {
        PuppetCast x = company();
        for (int t = 4; t < 20; t++) {
            x.trait(NONE, NONE, NONE);
        }
        return x;
    }

    /** The company with twelve characters. */
    static PuppetCast allCharacters() {
        PuppetCast x = company();
        for (int c = 2; c < 12; c++) {
            x.character(c % 4);
        }
        return x;
    }

    /** The company, where character 0 takes 1, 2, 4, 5, 6, and trait 7 is taken by nobody. */
    static PuppetCast allTaken() {
        PuppetCast x = company();
        for (int t = 4; t < 8; t++) {
            x.trait(NONE, NONE, NONE);
        }
        for (int t = 4; t < 7; t++) {
            x.takes(0, t);
        }
        return x;
    }

    /** The company, where the body that was made latest has eight ops. */
    static PuppetCast allOps() {
        PuppetCast x = company();
        for (int n = 2; n <= 8; n++) {
            x.op(4, n, 0);
        }
        return x;
    }

    /** The company, where character 0 leaves out (2, 1) and acts 0 to 6 of trait 3. */
    static PuppetCast allLeft() {
        PuppetCast x = company();
        for (int act = 0; act < 7; act++) {
            x.leave(0, 3, act);
        }
        return x;
    }

    /** The company, where character 1 renames (2, 1) to 3 and acts 0 to 6 of trait 3 to the next ones. */
    static PuppetCast allRenamed() {
        PuppetCast x = company();
        for (int act = 0; act < 7; act++) {
            x.rename(1, 3, act, act + 1);
        }
        return x;
    }

    /** Some traits, none of which stands under another. */
    static PuppetCast loose(int traits) {
        PuppetCast x = new PuppetCast();
        for (int t = 0; t < traits; t++) {
            x.trait(NONE, NONE, NONE);
        }
        return x;
    }

    /** Some traits, each of which stands under the one before; character 0, of troupe 0, takes the last. */
    static PuppetCast chain(int traits) {
        PuppetCast x = new PuppetCast();
        for (int t = 0; t < traits; t++) {
            x.trait(t - 1, NONE, NONE);
        }
        x.character(0);
        x.takes(0, traits - 1);
        return x;
    }

    static void ops(PuppetCast x, int... kindsAndNumbers) {
        for (int i = 0; i + 2 < kindsAndNumbers.length; i += 3) {
            x.op(kindsAndNumbers[i], kindsAndNumbers[i + 1], kindsAndNumbers[i + 2]);
        }
    }

    /** The same op some times. */
    static void times(PuppetCast x, int n, int kind, int a, int b) {
        for (int i = 0; i < n; i++) {
            x.op(kind, a, b);
        }
    }
}
