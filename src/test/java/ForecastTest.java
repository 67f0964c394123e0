/** Promises 37 to 40: what would be. */
final class ForecastTest {
    public static void main(String[] args) {
        Check c = new Check("ForecastTest");
        promise37(c);
        promise38(c);
        promise38Ways(c);
        promise38LongestWay(c);
        promise39(c);
        promise39None(c);
        promise39Pauses(c);
        promise40(c);
        c.end();
    }

    private static void promise37(Check c) {
        Run x = Run.deck(4);
        c.same("37: no presentation", RevealDeck.NONE, x.movesLeft());
        c.same("37: no presentation, no slides", RevealDeck.NONE, new Run().movesLeft());
        x.start();
        c.same("37: three slides behind", 3, x.movesLeft());
        x.addItem(0, 2, -1, 1);
        x.addItem(3, 0, 0, 1);
        c.same("37: steps count", 6, x.movesLeft());
        x.addItem(1, 9, -1, 1);
        x.hide(1, true);
        c.same("37: hidden ones do not", 5, x.movesLeft());
        x.forward();
        c.same("37: one is made", 4, x.movesLeft());
        x.tick(1);
        x.setEnd(1);
        c.same("37: as if it were not over", 4, x.movesLeft());
        x.setEnd(0);
        x.hide(0, true);
        c.same("37: from a hidden slide", 4, x.movesLeft());
        x.moveSlide(0, 3);
        c.same("37: at the end of the order", 1, x.movesLeft());
        x.forward();
        c.same("37: none", 0, x.movesLeft());
    }

    private static void promise38(Check c) {
        Run x = Run.deck(4);
        c.same("38: no presentation", RevealDeck.NONE, x.fewest(0));
        c.same("38: no such slide", RevealDeck.NO_SUCH, x.fewest(4));
        c.same("38: no such slide", RevealDeck.NO_SUCH, x.fewest(-1));
        x.start();
        c.same("38: no such slide", RevealDeck.NO_SUCH, x.fewest(4));
        c.same("38: the slide of the position", 0, x.fewest(0));
        c.same("38: the next", 1, x.fewest(1));
        c.same("38: the last", 3, x.fewest(3));
        x.addItem(0, 3, -1, 1);
        x.addItem(1, 2, -1, 1);
        c.same("38: over steps", 4, x.fewest(1));
        c.same("38: over steps", 7, x.fewest(2));
        x.forward();
        c.same("38: the slide of the position", 0, x.fewest(0));
        c.same("38: from step 1", 3, x.fewest(1));
        c.same("38: from step 1", 6, x.fewest(2));
        x.hide(1, true);
        c.same("38: hidden ones are left out", 3, x.fewest(2));
        c.same("38: no move leads there", RevealDeck.NONE, x.fewest(1));
        x.link(2, 9, 1);
        c.same("38: by a key to a hidden one", 4, x.fewest(1));
        x.tick(1);
        x.setEnd(1);
        c.same("38: as if it were not over", 3, x.fewest(2));
        x.setEnd(0);
        x.hide(1, false);
        x.forward();
        x.forward();
        x.forward();
        c.same("38: back is no such move", RevealDeck.NONE, x.fewest(0));
    }

    private static void promise38Ways(Check c) {
        Run x = Run.deck(6);
        x.addItem(0, 9, -1, 1);
        x.addItem(1, 9, -1, 1);
        x.addItem(4, 5, -1, 1);
        x.link(0, 1, 4);
        x.link(4, 2, 1);
        x.link(1, 3, 3);
        x.start();
        c.same("38: one key", 1, x.fewest(4));
        c.same("38: two keys", 2, x.fewest(1));
        c.same("38: three keys", 3, x.fewest(3));
        c.same("38: keys, then forward", 7, x.fewest(5));
        c.same("38: keys, then forward over steps", 12, x.fewest(2));
        x.link(3, 4, 2);
        c.same("38: four keys", 4, x.fewest(2));
        x.moveSlide(5, 0);
        c.same("38: before the position", RevealDeck.NONE, x.fewest(5));
        x.link(2, 5, 5);
        c.same("38: five keys", 5, x.fewest(5));
        x.link(0, 7, 0);
        c.same("38: a key to the slide itself helps nothing", 0, x.fewest(0));
        for (int i = 0; i < 9; i++) {
            x.forward();
        }
        c.same("38: from the final step", 1, x.fewest(1));
        x.press(7);
        c.same("38: from the first step", 2, x.fewest(1));
        Run y = Run.deck(10);
        y.start();
        c.same("38: the tenth slide", 9, y.fewest(9));
        y.link(0, 0, 9);
        c.same("38: the tenth slide by a key", 1, y.fewest(9));
        y.moveSlide(9, 0);
        y.press(0);
        c.same("38: from the tenth slide", 1, y.fewest(0));
        c.same("38: from the tenth slide", 9, y.fewest(8));
        c.same("38: the tenth slide itself", 0, y.fewest(9));
    }

    /** The way with the fewest moves may lead over all slides, against their order. */
    private static void promise38LongestWay(Check c) {
        Run x = Run.deck(10);
        x.addItem(0, 9, -1, 1);
        x.link(0, 4, 9);
        for (int slide = 2; slide <= 9; slide++) {
            x.addItem(slide, 9, -1, 1);
            x.link(slide, slide, slide - 1);
        }
        x.start();
        for (int slide = 1; slide <= 9; slide++) {
            c.same("38: by " + (10 - slide) + " keys", 10 - slide, x.fewest(slide));
        }
        x.forward();
        c.same("38: by 9 moves forward", 9, x.fewest(1));
        x.forward();
        c.same("38: by 8 moves forward", 8, x.fewest(1));
        c.same("38: by 8 keys", 8, x.fewest(2));
    }

    private static void promise39None(Check c) {
        for (int slides = 0; slides <= 2; slides++) {
            Run x = Run.deck(slides);
            c.same("39: no presentation of " + slides + " slides", RevealDeck.NONE, x.secondsLeft());
            for (int slide = 0; slide < slides; slide++) {
                x.setPause(slide, 7);
            }
            c.same("39: no presentation, though there are pauses", RevealDeck.NONE, x.secondsLeft());
            x.start();
            c.same("39: a presentation", slides == 0 ? RevealDeck.NONE : 7 * slides - 7, x.secondsLeft());
            x.stop();
            c.same("39: no presentation any more", RevealDeck.NONE, x.secondsLeft());
        }
    }

    private static void promise39(Check c) {
        Run x = Run.deck(3);
        c.same("39: no presentation", RevealDeck.NONE, x.secondsLeft());
        x.start();
        c.same("39: no pause", RevealDeck.NONE, x.secondsLeft());
        x.setPause(0, 10);
        c.same("39: no pause on the next slide", RevealDeck.NONE, x.secondsLeft());
        x.setPause(1, 7);
        c.same("39: the last slide needs none", 17, x.secondsLeft());
        x.addItem(2, 2, -1, 1);
        c.same("39: but for steps", RevealDeck.NONE, x.secondsLeft());
        x.setPause(2, 1);
        c.same("39: steps too", 19, x.secondsLeft());
        x.addItem(0, 3, -1, 1);
        c.same("39: steps too", 49, x.secondsLeft());
        x.tick(4);
        c.same("39: what was waited", 45, x.secondsLeft());
        x.forward();
        c.same("39: waited anew", 39, x.secondsLeft());
        x.hide(1, true);
        c.same("39: hidden ones are left out", 32, x.secondsLeft());
        x.setPause(1, 0);
        c.same("39: their pause does not count", 32, x.secondsLeft());
        x.hide(0, true);
        c.same("39: from a hidden slide", 32, x.secondsLeft());
        x.setEnd(6);
        c.same("39: as if there were no END", 32, x.secondsLeft());
        x.setEnd(4);
        c.same("39: as if there were no END", 32, x.secondsLeft());
        x.setEnd(0);
        c.same("39: no sooner", 4, x.tick(31));
        c.same("39: one second is left", 1, x.secondsLeft());
        c.same("39: no later", 1, x.tick(1));
        c.same("39: no move is possible", 0, x.secondsLeft());
        x.setPause(2, 0);
        c.same("39: then no pause is needed", 0, x.secondsLeft());
    }

    private static void promise39Pauses(Check c) {
        Run x = Run.deck(2);
        x.addItem(0, 1, -1, 1);
        x.start();
        x.tick(30);
        x.setPause(0, 30);
        c.same("39: waited as long as the pause", 31, x.secondsLeft());
        x.setPause(0, 31);
        c.same("39: waited almost as long", 32, x.secondsLeft());
        x.setPause(0, 32);
        c.same("39: two seconds less", 34, x.secondsLeft());
        x.setPause(0, 5);
        c.same("39: waited longer", 6, x.secondsLeft());
        c.same("39: that is so", 1, x.tick(5));
        c.same("39: that is so", 1, x.tick(1));
    }

    private static void promise40(Check c) {
        Run x = Run.deck(4);
        c.same("40: no presentation", RevealDeck.NONE, x.backTo());
        x.start();
        c.same("40: the trail is empty", RevealDeck.NONE, x.backTo());
        x.link(1, 5, 2);
        x.forward();
        c.same("40: backTo()", 0, x.backTo());
        x.press(5);
        c.same("40: backTo()", 1, x.backTo());
        x.hide(1, true);
        c.same("40: not to a hidden one", 0, x.backTo());
        x.forward();
        x.hide(2, true);
        c.same("40: to a hidden one that is marked", 2, x.backTo());
        x.removeSlide(2);
        c.same("40: not to one that is gone", 0, x.backTo());
        x.addSlide();
        x.hide(2, true);
        c.same("40: to one with the same number", 2, x.backTo());
        x.tick(1);
        x.setEnd(1);
        c.same("40: over", RevealDeck.NONE, x.backTo());
        x.setEnd(0);
        x.removeSlide(2);
        x.hide(0, true);
        c.same("40: not possible", RevealDeck.NONE, x.backTo());
        c.same("40: it changes nothing", 3, x.now(4));
    }
}
