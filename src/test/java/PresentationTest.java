/** Promises 13 to 18: start and stop, and the moves of a presentation. */
final class PresentationTest {
    public static void main(String[] args) {
        Check c = new Check("PresentationTest");
        promise13(c);
        promise14(c);
        promise15(c);
        promise15Trail(c);
        promise16(c);
        promise16Trail(c);
        promise17(c);
        promise18(c);
        promise18End(c);
        c.end();
    }

    private static void position(Check c, String when, Run x, int slide, int step, int mark) {
        c.same(when + ": now(0)", slide, x.now(0));
        c.same(when + ": now(1)", step, x.now(1));
        c.same(when + ": now(6)", mark, x.now(6));
    }

    private static void promise13(Check c) {
        Run none = new Run();
        c.refused(none, "13: no slides", RevealDeck.NOT_POSSIBLE, RevealDeck::start);
        Run x = Run.deck(3);
        x.moveSlide(2, 0);
        x.hide(2, true);
        c.same("13: the first that is not hidden", 0, x.start());
        position(c, "13: start", x, 0, 0, 0);
        x.addItem(0, 2, -1, 1);
        x.link(0, 1, 1);
        x.forward();
        x.press(1);
        x.tick(5);
        x.moveSlide(1, 0);
        c.same("13: again, though there is one", 1, x.start());
        for (int what = 1; what <= 6; what++) {
            c.same("13: from the beginning: now(" + what + ")", 0, x.now(what));
        }
        x.addItem(1, 3, -1, 1);
        x.forward();
        x.forward();
        c.same("13: again from a step", 1, x.start());
        position(c, "13: again from a step", x, 1, 0, 0);
        x.hide(0, true);
        x.hide(1, true);
        c.refused(x, "13: all are hidden", RevealDeck.NOT_POSSIBLE, RevealDeck::start);
        c.same("13: the presentation stays", 1, x.now(0));
    }

    private static void promise14(Check c) {
        Run x = Run.deck(1);
        c.refused(x, "14: none yet", RevealDeck.NOT_POSSIBLE, RevealDeck::stop);
        x.start();
        x.tick(99);
        x.tick(8);
        c.same("14: stop()", 107, x.stop());
        c.same("14: none afterwards", RevealDeck.NONE, x.now(2));
        c.refused(x, "14: none any more", RevealDeck.NOT_POSSIBLE, RevealDeck::stop);
        x.start();
        c.same("14: a clock of its own", 0, x.stop());
        x.setEnd(3);
        x.start();
        x.tick(9);
        c.same("14: also if it is over", 3, x.stop());
    }

    private static void promise15(Check c) {
        Run x = Run.deck(4);
        c.refused(x, "15: no presentation", RevealDeck.NOT_POSSIBLE, RevealDeck::forward);
        x.addItem(0, 2, -1, 1);
        x.hide(1, true);
        x.start();
        x.tick(3);
        c.same("15: a step", 1, x.forward());
        position(c, "15: a step", x, 0, 1, 0);
        c.same("15: waited", 0, x.now(3));
        c.same("15: the clock stays", 3, x.now(2));
        c.same("15: the final step", 2, x.forward());
        c.same("15: the next slide", 0, x.forward());
        position(c, "15: hidden ones are left out", x, 2, 0, 0);
        c.same("15: the trail", 0, x.trail(0, 0));
        c.same("15: the trail", 2, x.trail(0, 1));
        c.same("15: the last slide", 0, x.forward());
        position(c, "15: the last slide", x, 3, 0, 0);
        c.refused(x, "15: no next slide", RevealDeck.NOT_POSSIBLE, RevealDeck::forward);
        x.hide(0, true);
        x.moveSlide(3, 0);
        c.same("15: by the order of now", 0, x.forward());
        position(c, "15: by the order of now", x, 2, 0, 0);
        x.addItem(2, 1, -1, 1);
        x.setEnd(3);
        c.refused(x, "15: over", RevealDeck.NOT_POSSIBLE, RevealDeck::forward);
        x.setEnd(4);
        c.same("15: not over", 1, x.forward());
        Run hidden = Run.deck(3);
        hidden.start();
        hidden.hide(0, true);
        hidden.hide(1, true);
        c.same("15: from a hidden slide", 0, hidden.forward());
        c.same("15: from a hidden slide", 2, hidden.now(0));
        hidden.hide(2, true);
        c.refused(hidden, "15: all are hidden", RevealDeck.NOT_POSSIBLE, RevealDeck::forward);
        hidden.addItem(2, 0, 0, 1);
        c.same("15: a step on a hidden slide", 1, hidden.forward());
    }

    /** The trail has 40 positions at the most, and the oldest one goes. */
    private static void promise15Trail(Check c) {
        Run x = Run.deck(5);
        for (int i = 0; i < 5; i++) {
            x.addItem(i, 9, -1, 1);
        }
        x.start();
        for (int i = 1; i <= 40; i++) {
            x.forward();
            c.same("15: the trail grows", i, x.now(4));
        }
        c.same("15: the oldest of 40", 0, x.trail(39, 0));
        c.same("15: the oldest of 40", 0, x.trail(39, 1));
        x.forward();
        c.same("15: it grows no more", 40, x.now(4));
        c.same("15: the oldest was dropped", 0, x.trail(39, 0));
        c.same("15: the oldest was dropped", 1, x.trail(39, 1));
        c.same("15: the latest", 4, x.trail(0, 0));
        c.same("15: the latest", 0, x.trail(0, 1));
        c.same("15: no more", RevealDeck.NONE, x.trail(40, 0));
        x.link(4, 6, 0);
        x.link(0, 6, 4);
        for (int i = 0; i < 40; i++) {
            x.press(6);
        }
        c.same("15: it grows no more", 40, x.now(4));
        c.same("15: the oldest is by forward", 4, x.trail(39, 0));
        c.same("15: the oldest is by forward", 0, x.trail(39, 2));
        c.same("15: the next oldest is by a key", 0, x.trail(38, 0));
        c.same("15: the next oldest is by a key", 1, x.trail(38, 2));
        x.press(6);
        c.same("15: the oldest is by a key", 0, x.trail(39, 0));
        c.same("15: the oldest is by a key", 1, x.trail(39, 2));
        c.same("15: then the other slide", 4, x.trail(38, 0));
    }

    private static void promise16(Check c) {
        Run x = Run.deck(3);
        c.refused(x, "16: no presentation", RevealDeck.NOT_POSSIBLE, RevealDeck::back);
        x.addItem(0, 3, -1, 1);
        x.link(0, 5, 1);
        x.link(1, 6, 2);
        x.link(0, 0, 2);
        x.addItem(1, 1, -1, 1);
        x.start();
        c.refused(x, "16: the trail is empty", RevealDeck.NOT_POSSIBLE, RevealDeck::back);
        x.forward();
        x.forward();
        x.hide(1, true);
        x.press(5);
        x.forward();
        x.press(6);
        x.tick(2);
        c.same("16: to a marked position of a hidden slide", 1, x.back());
        position(c, "16: by steps from a key", x, 1, 1, 1);
        c.same("16: waited", 0, x.now(3));
        c.same("16: the clock stays", 2, x.now(2));
        c.same("16: the trail is shorter", 4, x.now(4));
        c.same("16: back()", 0, x.back());
        position(c, "16: by a key", x, 1, 0, 1);
        c.same("16: back()", 2, x.back());
        position(c, "16: not by a key", x, 0, 2, 0);
        x.press(5);
        x.removeItem(0, 0);
        x.addItem(0, 1, -1, 1);
        c.same("16: the final step, if the step is above it", 1, x.back());
        position(c, "16: the final step", x, 0, 1, 0);
        c.same("16: the step, if it is not above", 1, x.back());
        x.setEnd(2);
        c.refused(x, "16: over", RevealDeck.NOT_POSSIBLE, RevealDeck::back);
        x.setEnd(3);
        c.same("16: not over", 0, x.back());
        c.refused(x, "16: the trail is empty again", RevealDeck.NOT_POSSIBLE, RevealDeck::back);
    }

    /** Back leaves out what is hidden and not marked, and what does not exist. */
    private static void promise16Trail(Check c) {
        Run x = Run.deck(4);
        x.link(2, 0, 3);
        x.start();
        x.forward();
        x.forward();
        x.press(0);
        x.hide(2, true);
        x.removeSlide(1);
        c.same("16: back()", 0, x.back());
        position(c, "16: over a hidden slide and one that is gone", x, 0, 0, 0);
        c.same("16: those are removed too", 0, x.now(4));

        Run y = Run.deck(4);
        y.start();
        y.forward();
        y.forward();
        y.hide(0, true);
        y.removeSlide(1);
        c.refused(y, "16: nowhere to go", RevealDeck.NOT_POSSIBLE, RevealDeck::back);
        c.same("16: the trail stays", 2, y.now(4));
        y.addSlide();
        c.same("16: a slide with this number exists again", 0, y.back());
        position(c, "16: a slide with this number", y, 1, 0, 0);

        Run z = Run.deck(2);
        z.addItem(1, 2, -1, 1);
        z.link(0, 1, 1);
        z.link(1, 2, 0);
        z.start();
        z.press(1);
        z.forward();
        z.press(2);
        z.removeSlide(1);
        z.addSlide();
        z.hide(1, true);
        c.same("16: marked, with the final step of the new slide", 0, z.back());
        position(c, "16: marked", z, 1, 0, 1);
        c.same("16: the trail", 2, z.now(4));
    }

    private static void promise17(Check c) {
        Run x = Run.deck(3);
        x.addItem(1, 1, -1, 1);
        x.link(0, 9, 1);
        x.link(0, 0, 0);
        x.link(1, 3, 2);
        c.refused(x, "17: no presentation", RevealDeck.NOT_POSSIBLE, d -> d.press(9));
        c.refused(x, "17: press(10)", RevealDeck.BAD_VALUE, d -> d.press(10));
        c.refused(x, "17: press(-1)", RevealDeck.BAD_VALUE, d -> d.press(-1));
        x.start();
        x.tick(4);
        c.refused(x, "17: no such link", RevealDeck.NOT_POSSIBLE, d -> d.press(3));
        c.same("17: to the same slide", 0, x.press(0));
        c.same("17: the clock stays", 4, x.now(2));
        position(c, "17: to the same slide", x, 0, 0, 1);
        c.same("17: the trail", 1, x.now(4));
        c.same("17: not marked there", 0, x.trail(0, 2));
        c.same("17: waited", 0, x.now(3));
        x.hide(1, true);
        c.same("17: to a hidden slide", 1, x.press(9));
        c.same("17: the clock stays", 4, x.now(2));
        c.same("17: marked there", 1, x.trail(0, 2));
        x.forward();
        position(c, "17: a step keeps the mark", x, 1, 1, 1);
        x.forward();
        position(c, "17: another slide has none", x, 2, 0, 0);
        x.back();
        x.link(1, 4, 1);
        c.same("17: to the first step", 1, x.press(4));
        position(c, "17: to the first step", x, 1, 0, 1);
        x.setEnd(4);
        c.refused(x, "17: over", RevealDeck.NOT_POSSIBLE, d -> d.press(3));
        c.refused(x, "17: over, and a bad key", RevealDeck.BAD_VALUE, d -> d.press(10));
        x.setEnd(5);
        c.same("17: not over", 2, x.press(3));
    }

    private static void promise18(Check c) {
        Run x = Run.deck(3);
        c.refused(x, "18: no presentation", RevealDeck.NOT_POSSIBLE, d -> d.tick(1));
        c.refused(x, "18: tick(0)", RevealDeck.BAD_VALUE, d -> d.tick(0));
        c.refused(x, "18: tick(100)", RevealDeck.BAD_VALUE, d -> d.tick(100));
        x.addItem(0, 1, -1, 1);
        x.setPause(0, 3);
        x.setPause(1, 1);
        x.start();
        c.same("18: below the pause", 0, x.tick(2));
        c.same("18: waited", 2, x.now(3));
        c.same("18: at the pause", 1, x.tick(1));
        position(c, "18: a step", x, 0, 1, 0);
        c.same("18: waited", 0, x.now(3));
        c.same("18: two slides", 2, x.tick(4));
        position(c, "18: the pause 0 stays", x, 2, 0, 0);
        c.same("18: the clock", 7, x.now(2));
        c.same("18: the pause 0 stays", 0, x.tick(99));
        c.same("18: waited", 99, x.now(3));
        c.same("18: the trail", 3, x.now(4));
        x.setPause(2, 60);
        c.same("18: no next slide", 0, x.tick(1));
        x.addSlide();
        c.same("18: waited longer than the pause", 1, x.tick(1));
        position(c, "18: the next slide", x, 3, 0, 0);

        Run y = Run.deck(2);
        y.addItem(1, 2, -1, 1);
        y.setPause(1, 2);
        y.link(0, 1, 1);
        y.start();
        y.press(1);
        c.same("18: steps by the clock", 1, y.tick(3));
        position(c, "18: keep the mark", y, 1, 1, 1);
        c.same("18: waited", 1, y.now(3));
        c.same("18: not beyond the final step", 1, y.tick(50));
    }

    private static void promise18End(Check c) {
        Run x = Run.deck(3);
        x.setPause(0, 2);
        x.setPause(1, 2);
        x.setEnd(4);
        x.start();
        c.same("18: no move in the second of the end", 1, x.tick(99));
        c.same("18: the clock stops", 4, x.now(2));
        c.same("18: waited", 2, x.now(3));
        c.same("18: the position", 1, x.now(0));
        c.refused(x, "18: over", RevealDeck.NOT_POSSIBLE, d -> d.tick(1));
        c.refused(x, "18: over, and a bad value", RevealDeck.BAD_VALUE, d -> d.tick(0));
        x.setEnd(6);
        c.same("18: a move in the second before the end", 1, x.tick(5));
        c.same("18: the clock stops", 6, x.now(2));
        c.same("18: waited", 1, x.now(3));
        x.setEnd(0);
        c.same("18: no end", 0, x.tick(5));
        c.same("18: the clock", 11, x.now(2));
    }
}
