import java.util.ArrayList;
import java.util.List;

/**
 * All that can be seen of an object, so that two of them can be compared. It
 * asks first, then plays, then changes: what was left out, renamed, preferred
 * or made latest shows only so. It makes some 410 calls: of the 512 that an
 * object has, a hundred are left for what comes before.
 */
final class Sights {
    private static final int NONE = PuppetCast.NONE;
    private final PuppetCast x;
    private final List<Long> seen = new ArrayList<>();

    private Sights(PuppetCast x) {
        this.x = x;
    }

    static List<Long> of(PuppetCast x) {
        Sights sights = new Sights(x);
        sights.askOfAll();
        sights.askOfActs();
        sights.playAll();
        sights.change();
        return sights.seen;
    }

    private void add(long answer) {
        seen.add(answer);
    }

    private void askOfAll() {
        add(x.digest());
        for (int what = 0; what < 6; what++) {
            add(x.count(what));
        }
        for (int what = 0; what < 4; what++) {
            add(x.told(what));
        }
        add(x.marks());
        for (int i = 0; i < 10; i++) {
            add(x.mark(i / 5, i % 5));
        }
        for (int i = 0; i < 20; i++) {
            add(x.lineOf(i / 4, i % 4));
        }
    }

    private void askOfActs() {
        for (int i = 0; i < 24; i++) {
            int character = i / 12, act = i % 12;
            add(x.about(character, act, 0));
            add(x.about(character, act, 1));
            add(x.about(character, act, 2));
            add(x.about(character, act, 4));
            add(x.above(character, act, 1));
            add(x.guards(character, act, 0));
        }
    }

    private void playAll() {
        for (int i = 0; i < 24; i++) {
            add(x.play(i / 12, i % 12, 3));
            add(x.told(0));
        }
    }

    private void change() {
        add(x.op(4, 1, 0));
        for (int i = 0; i < 24; i++) {
            add(x.prefer(i / 12, i % 12, NONE));
        }
        for (int i = 0; i < 72; i++) {
            add(x.leave(i / 36, 1 + i / 12 % 3, i % 12));
        }
        for (int i = 0; i < 72; i++) {
            add(x.rename(i / 36, 1 + i / 12 % 3, i % 12, (i + 1) % 12));
        }
        for (int i = 0; i < 8; i++) {
            add(x.takes(i / 4, i % 4));
        }
        add(x.trait(NONE, NONE, NONE));
        add(x.character(0));
    }
}
