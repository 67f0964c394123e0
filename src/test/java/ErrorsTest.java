import java.util.ArrayList;
import java.util.List;
import java.util.function.ToIntFunction;

/**
 * "A method that returns an error code changes nothing. The error codes of a method are listed in the order in which
 * they are checked, and the first one that applies is returned.": for each argument of each method what is one too
 * small, one too large, and so far off that it might wrap around; and each pair of errors that can apply at once.
 */
final class ErrorsTest {
    private static final int NO_SUCH = RevealDeck.NO_SUCH;
    private static final int BAD_VALUE = RevealDeck.BAD_VALUE;
    private static final int TOO_MANY = RevealDeck.TOO_MANY;
    private static final int NOT_POSSIBLE = RevealDeck.NOT_POSSIBLE;
    private static final int NONE = RevealDeck.NONE;

    private interface OneArgument {
        int make(RevealDeck d, int value);
    }

    private final Check c = new Check("ErrorsTest");

    public static void main(String[] args) {
        ErrorsTest t = new ErrorsTest();
        t.noSuchSlide();
        t.noSuchItem();
        t.noSuchLink();
        t.badValues();
        t.badLooks();
        t.noneBehindTheLast();
        t.ordersOfTwoErrors();
        t.nothingIsPossible();
        t.noErrorCode();
        t.c.end();
    }

    /** What lies outside of least to most: next to it, far off, and what wraps around to a number inside. */
    private static List<Integer> outside(int least, int most) {
        List<Integer> values = new ArrayList<>(List.of(least - 1, most + 1, Integer.MIN_VALUE, Integer.MAX_VALUE));
        for (int bits = 8; bits <= 31; bits += bits == 16 ? 15 : 8) {
            values.add(least + (1 << bits));
            values.add(most - (1 << bits));
        }
        values.removeIf(value -> value >= least && value <= most);
        return values;
    }

    private void refusedOutside(Run x, String call, int least, int most, int code, OneArgument made) {
        for (int value : outside(least, most)) {
            c.refused(x.again(), call + " of " + value, code, d -> made.make(d, value));
        }
    }

    /** A call that tells something only: its answer is enough. */
    private void told(Run x, String call, int least, int most, int code, OneArgument made) {
        for (int value : outside(least, most)) {
            c.same(call + " of " + value, code, x.again().call(d -> made.make(d, value)));
        }
    }

    private static List<Run> situations() {
        Run noPresentation = Run.busy();
        noPresentation.stop();
        Run over = Run.busy();
        over.setEnd(1);
        return List.of(Run.busy(), noPresentation, over);
    }

    /** "NO_SUCH: There is no such slide, item or link.": a number that no slide has, with and without a presentation. */
    private void noSuchSlide() {
        for (Run x : situations()) {
            refusedOutside(x, "removeSlide", 0, 2, NO_SUCH, (d, v) -> d.removeSlide(v));
            refusedOutside(x, "moveSlide", 0, 2, NO_SUCH, (d, v) -> d.moveSlide(v, 0));
            refusedOutside(x, "hide", 0, 2, NO_SUCH, (d, v) -> d.hide(v, true));
            refusedOutside(x, "setPause", 0, 2, NO_SUCH, (d, v) -> d.setPause(v, 1));
            refusedOutside(x, "addItem", 0, 2, NO_SUCH, (d, v) -> d.addItem(v, 1, 2, 3));
            refusedOutside(x, "removeItem", 0, 2, NO_SUCH, (d, v) -> d.removeItem(v, 0));
            refusedOutside(x, "link of a slide", 0, 2, NO_SUCH, (d, v) -> d.link(v, 1, 0));
            refusedOutside(x, "link to a slide", 0, 2, NO_SUCH, (d, v) -> d.link(0, 1, v));
            refusedOutside(x, "unlink", 0, 2, NO_SUCH, (d, v) -> d.unlink(v, 1));
            told(x, "slide", 0, 2, NO_SUCH, (d, v) -> d.slide(v, 0));
            told(x, "item", 0, 2, NO_SUCH, (d, v) -> d.item(v, 0, 0));
            told(x, "target", 0, 2, NO_SUCH, (d, v) -> d.target(v, 1));
            told(x, "picture", 0, 2, NO_SUCH, (d, v) -> d.picture(v, 1));
            told(x, "fewest", 0, 2, NO_SUCH, (d, v) -> d.fewest(v));
        }
        Run full = Run.deck(10);
        full.removeSlide(4);
        for (int v : new int[] {-1, 4, 10}) {
            c.refused(full, "removeSlide(" + v + ")", NO_SUCH, d -> d.removeSlide(v));
            c.refused(full, "moveSlide(" + v + ", 0)", NO_SUCH, d -> d.moveSlide(v, 0));
            c.refused(full, "hide(" + v + ", true)", NO_SUCH, d -> d.hide(v, true));
            c.refused(full, "hide(" + v + ", false)", NO_SUCH, d -> d.hide(v, false));
            c.refused(full, "setPause(" + v + ", 1)", NO_SUCH, d -> d.setPause(v, 1));
            c.refused(full, "addItem(" + v + ", 1, 2, 3)", NO_SUCH, d -> d.addItem(v, 1, 2, 3));
            c.refused(full, "link(" + v + ", 1, 0)", NO_SUCH, d -> d.link(v, 1, 0));
            c.refused(full, "link(0, 1, " + v + ")", NO_SUCH, d -> d.link(0, 1, v));
        }
    }

    private void noSuchItem() {
        for (Run x : situations()) {
            refusedOutside(x, "removeItem of 2", 0, 1, NO_SUCH, (d, v) -> d.removeItem(0, v));
            refusedOutside(x, "removeItem of none", 0, -1, NO_SUCH, (d, v) -> d.removeItem(2, v));
            told(x, "item of 2", 0, 1, NO_SUCH, (d, v) -> d.item(0, v, 0));
            told(x, "item of none", 0, -1, NO_SUCH, (d, v) -> d.item(2, v, 2));
        }
        Run six = Run.deck(1);
        for (int i = 0; i < 6; i++) {
            six.addItem(0, 1, 2, 3);
        }
        refusedOutside(six, "removeItem of 6", 0, 5, NO_SUCH, (d, v) -> d.removeItem(0, v));
        told(six, "item of 6", 0, 5, NO_SUCH, (d, v) -> d.item(0, v, 1));
    }

    /** unlink lists no BAD_VALUE: there is no link for a key out of range. */
    private void noSuchLink() {
        for (Run x : situations()) {
            refusedOutside(x, "unlink of the key 1", 1, 1, NO_SUCH, (d, v) -> d.unlink(0, v));
            refusedOutside(x, "unlink of the keys 8 and 9", 8, 9, NO_SUCH, (d, v) -> d.unlink(1, v));
            refusedOutside(x, "unlink", 0, 9, NO_SUCH, (d, v) -> d.unlink(1, v));
        }
    }

    /** "BAD_VALUE: Another argument is out of its range." */
    private void badValues() {
        for (Run x : situations()) {
            refusedOutside(x, "moveSlide to a place", 0, 2, BAD_VALUE, (d, v) -> d.moveSlide(1, v));
            refusedOutside(x, "setPause", 0, 60, BAD_VALUE, (d, v) -> d.setPause(1, v));
            refusedOutside(x, "addItem: first, with no last", 0, 9, BAD_VALUE, (d, v) -> d.addItem(1, v, -1, 0));
            refusedOutside(x, "addItem: first, with the last 9", 0, 9, BAD_VALUE, (d, v) -> d.addItem(1, v, 9, 0));
            refusedOutside(x, "addItem: last, behind 0", -1, 9, BAD_VALUE, (d, v) -> d.addItem(1, 0, v, 0));
            refusedOutside(x, "addItem: label", 0, 99, BAD_VALUE, (d, v) -> d.addItem(1, 0, -1, v));
            refusedOutside(x, "link: key", 0, 9, BAD_VALUE, (d, v) -> d.link(1, v, 0));
            refusedOutside(x, "note: second", 0, 9999, BAD_VALUE, (d, v) -> d.note(v, 5));
            refusedOutside(x, "note: second, to remove", 0, 9999, BAD_VALUE, (d, v) -> d.note(v, -1));
            refusedOutside(x, "note: number", -1, 99, BAD_VALUE, (d, v) -> d.note(4, v));
            refusedOutside(x, "setEnd", 0, 9999, BAD_VALUE, (d, v) -> d.setEnd(v));
            refusedOutside(x, "press", 0, 9, BAD_VALUE, (d, v) -> d.press(v));
            refusedOutside(x, "tick", 1, 99, BAD_VALUE, (d, v) -> d.tick(v));
            refusedOutside(x, "append", 32, 126, BAD_VALUE, (d, v) -> d.append(v));
        }
        for (int i = 1; i <= 9; i++) {
            int first = i;
            refusedOutside(Run.deck(1), "addItem: last, behind " + first, first, 9, BAD_VALUE, (d, v) -> v == -1 ? BAD_VALUE : d.addItem(0, first, v, 0));
        }
    }

    private void badLooks() {
        for (Run x : situations()) {
            told(x, "why", 0, 3, BAD_VALUE, (d, v) -> d.why(v));
            told(x, "slide: what", 0, 5, BAD_VALUE, (d, v) -> d.slide(1, v));
            told(x, "item: what", 0, 2, BAD_VALUE, (d, v) -> d.item(1, 0, v));
            told(x, "target: key", 0, 9, BAD_VALUE, (d, v) -> d.target(1, v));
            told(x, "picture: step", 0, 9, BAD_VALUE, (d, v) -> d.picture(1, v));
            told(x, "now", 0, 6, BAD_VALUE, (d, v) -> d.now(v));
            told(x, "trail: what", 0, 2, BAD_VALUE, (d, v) -> d.trail(0, v));
            told(x, "slideAt below 0", 0, Integer.MAX_VALUE, BAD_VALUE, (d, v) -> v < 0 ? d.slideAt(v) : BAD_VALUE);
            told(x, "trail: ago below 0", 0, Integer.MAX_VALUE, BAD_VALUE, (d, v) -> v < 0 ? d.trail(v, 0) : BAD_VALUE);
        }
    }

    /** "NONE if there are not so many slides", "or the trail has not so many positions" */
    private void noneBehindTheLast() {
        Run x = Run.busy();
        for (int place : new int[] {3, 4, 9, 10, 256, 65536, 1 << 30, Integer.MAX_VALUE}) {
            c.same("slideAt(" + place + ")", NONE, x.slideAt(place));
        }
        for (int ago : new int[] {4, 5, 39, 40, 41, 256, 65536, 1 << 30, Integer.MAX_VALUE}) {
            for (int what = 0; what <= 2; what++) {
                c.same("trail(" + ago + ", " + what + ")", NONE, x.trail(ago, what));
            }
        }
        c.same("slideAt(2)", 2, x.slideAt(2));
        c.same("now(4)", 4, x.now(4));
        c.same("trail(3, 0)", 0, x.trail(3, 0));
    }

    /** Each pair of errors that can apply at once: the first one in the list of the method is returned. */
    private void ordersOfTwoErrors() {
        Run x = fullRoom();
        c.refused(x, "moveSlide: NO_SUCH, BAD_VALUE", NO_SUCH, d -> d.moveSlide(9, 9));
        c.refused(x, "setPause: NO_SUCH, BAD_VALUE", NO_SUCH, d -> d.setPause(-1, -1));
        c.refused(x, "addItem: NO_SUCH, BAD_VALUE of first", NO_SUCH, d -> d.addItem(9, 10, -1, 0));
        c.refused(x, "addItem: NO_SUCH, BAD_VALUE of last", NO_SUCH, d -> d.addItem(9, 5, 4, 0));
        c.refused(x, "addItem: NO_SUCH, BAD_VALUE of label", NO_SUCH, d -> d.addItem(9, 0, -1, 100));
        c.refused(x, "addItem: BAD_VALUE of first, TOO_MANY", BAD_VALUE, d -> d.addItem(0, -1, -1, 0));
        c.refused(x, "addItem: BAD_VALUE of last, TOO_MANY", BAD_VALUE, d -> d.addItem(0, 5, 4, 0));
        c.refused(x, "addItem: BAD_VALUE of label, TOO_MANY", BAD_VALUE, d -> d.addItem(0, 0, -1, -1));
        c.refused(x, "addItem: TOO_MANY alone", TOO_MANY, d -> d.addItem(0, 0, -1, 0));
        c.refused(x, "link: NO_SUCH slide, BAD_VALUE", NO_SUCH, d -> d.link(9, 10, 0));
        c.refused(x, "link: NO_SUCH target, BAD_VALUE", NO_SUCH, d -> d.link(1, 10, 9));
        c.refused(x, "link: NO_SUCH target, TOO_MANY", NO_SUCH, d -> d.link(0, 9, 9));
        c.refused(x, "link: NO_SUCH target, a key that has a link", NO_SUCH, d -> d.link(0, 1, 9));
        c.refused(x, "link: BAD_VALUE, TOO_MANY", BAD_VALUE, d -> d.link(0, -1, 1));
        c.refused(x, "link: TOO_MANY alone", TOO_MANY, d -> d.link(0, 9, 1));
        c.refused(x, "note: BAD_VALUE of second, NO_SUCH", BAD_VALUE, d -> d.note(-1, -1));
        c.refused(x, "note: BAD_VALUE of second, TOO_MANY", BAD_VALUE, d -> d.note(10000, 5));
        c.refused(x, "note: BAD_VALUE of number, TOO_MANY", BAD_VALUE, d -> d.note(9, 100));
        c.refused(x, "note: BAD_VALUE of number, NO_SUCH", BAD_VALUE, d -> d.note(9, -2));
        c.refused(x, "note: NO_SUCH, not TOO_MANY", NO_SUCH, d -> d.note(9, -1));
        c.refused(x, "note: TOO_MANY alone", TOO_MANY, d -> d.note(9, 9));
        c.refused(x, "press: BAD_VALUE, NOT_POSSIBLE", BAD_VALUE, d -> d.press(10));
        c.refused(x, "press: NOT_POSSIBLE alone", NOT_POSSIBLE, d -> d.press(1));
        c.refused(x, "tick: BAD_VALUE, NOT_POSSIBLE", BAD_VALUE, d -> d.tick(100));
        c.refused(x, "tick: NOT_POSSIBLE alone", NOT_POSSIBLE, d -> d.tick(1));
        c.refused(x, "append: BAD_VALUE, TOO_MANY", BAD_VALUE, d -> d.append(31));
        c.refused(x, "append: TOO_MANY alone", TOO_MANY, d -> d.append(32));
        c.same("slide: NO_SUCH, BAD_VALUE", NO_SUCH, x.slide(9, 6));
        c.same("item: NO_SUCH slide, BAD_VALUE", NO_SUCH, x.item(9, 0, 3));
        c.same("item: NO_SUCH item, BAD_VALUE", NO_SUCH, x.item(0, 6, 3));
        c.same("target: NO_SUCH, BAD_VALUE", NO_SUCH, x.target(9, 10));
        c.same("picture: NO_SUCH, BAD_VALUE", NO_SUCH, x.picture(9, 10));
        c.same("why: BAD_VALUE, NONE", BAD_VALUE, x.why(4));
        c.same("now: BAD_VALUE, NONE", BAD_VALUE, x.now(7));
        c.same("trail: BAD_VALUE of what, NONE", BAD_VALUE, x.trail(0, 3));
        c.same("trail: BAD_VALUE of what, not so many", BAD_VALUE, x.trail(99, -1));
        c.same("trail: BAD_VALUE of ago, NONE", BAD_VALUE, x.trail(-1, 0));
        c.same("fewest: NO_SUCH, NONE", NO_SUCH, x.fewest(9));
        x.start();
        x.tick(1);
        x.setEnd(1);
        c.refused(x, "press: BAD_VALUE, over", BAD_VALUE, d -> d.press(-1));
        c.refused(x, "tick: BAD_VALUE, over", BAD_VALUE, d -> d.tick(0));
    }

    /** All rooms of slide 0, of the notes and of the text are full; there is no presentation. */
    private static Run fullRoom() {
        Run x = Run.deck(3);
        for (int i = 0; i < 6; i++) {
            x.addItem(0, i, -1, i);
        }
        for (int key = 0; key < 3; key++) {
            x.link(0, key, key);
        }
        for (int second = 0; second < 8; second++) {
            x.note(second, second);
        }
        Check.type(x, "f;".repeat(30));
        return x;
    }

    /** Everything is refused that can be refused for what there is, and not for its arguments. */
    private void nothingIsPossible() {
        Run x = Run.deck(10);
        for (int slide = 0; slide <= 9; slide++) {
            x.hide(slide, true);
        }
        c.refused(x, "addSlide(): no room", TOO_MANY, RevealDeck::addSlide);
        c.refused(x, "start(): all are hidden", NOT_POSSIBLE, RevealDeck::start);
        c.refused(x, "stop(): no presentation", NOT_POSSIBLE, RevealDeck::stop);
        c.refused(x, "run(): no text", RevealDeck.BAD_TEXT, RevealDeck::run);
        x.hide(9, false);
        x.start();
        c.refused(x, "removeSlide(9): of the position", NOT_POSSIBLE, d -> d.removeSlide(9));
        x.hide(9, true);
        c.refused(x, "removeSlide(9): of the position, hidden", NOT_POSSIBLE, d -> d.removeSlide(9));
        c.refused(x, "start(): all are hidden, also that of the position", NOT_POSSIBLE, RevealDeck::start);
        c.refused(x, "forward(): all are hidden", NOT_POSSIBLE, RevealDeck::forward);
        c.refused(x, "back(): no trail", NOT_POSSIBLE, RevealDeck::back);
        c.refused(x, "press(0): no link", NOT_POSSIBLE, d -> d.press(0));
        c.same("stop() is possible", 0, x.stop());
        c.same("removeSlide(9) then too", 9, x.removeSlide(9));
    }

    /** "NONE: There is no result; this is not an error code." and a refused run of moves: both leave what run tells. */
    private void noErrorCode() {
        Run x = Run.busy();
        x.clearText();
        c.same("why(0) as run told it", 1, x.why(0));
        c.refused(x, "run() of a bad text leaves the report", RevealDeck.BAD_TEXT, RevealDeck::run);
        Check.type(x, "f;x");
        c.refused(x, "run() of a bad text leaves the report", RevealDeck.BAD_TEXT, RevealDeck::run);
        ToIntFunction<RevealDeck> undo = RevealDeck::undo;
        for (int left = 3; left >= 0; left--) {
            c.same("undo()", left, x.call(undo));
        }
        c.refused(x, "undo() of an empty history", NONE, undo);
        c.same("why(0) as run told it", 1, x.why(0));
    }
}
