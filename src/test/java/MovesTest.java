import java.util.function.IntConsumer;
import java.util.function.ToIntFunction;

/** The sentences under "Presentation" of the document that name a boundary, each with a test of its own, which quotes it. */
final class MovesTest {
    private final Check c = new Check("MovesTest");

    public static void main(String[] args) {
        MovesTest t = new MovesTest();
        t.noneAtFirst();
        t.movesPutThePositionAtTheEnd();
        t.oldestOf41IsDropped();
        t.backFromAFullTrail();
        t.forwardByAStep();
        t.forwardToTheNextSlide();
        t.forwardIsNotPossible();
        t.byAKey();
        t.byAKeyIsNotPossible();
        t.backOverSlides();
        t.backToTheFinalStep();
        t.backIsNotPossible();
        t.backSetsWaited();
        t.markedByAKeyAndSteps();
        t.backToAMarkedHiddenSlide();
        t.clockGoesOn();
        t.moveAtThePause();
        t.waitedIsAtLeastThePause();
        t.moveForwardMustBePossible();
        t.notOverByThatSecond();
        t.overAtTheEnd();
        t.mostMovesOfATick();
        t.longestForecast();
        t.clockOfManyTicks();
        t.c.end();
    }

    private void position(String when, Run x, int slide, int step, int mark) {
        c.same(when + ": now(0)", slide, x.now(0));
        c.same(when + ": now(1)", step, x.now(1));
        c.same(when + ": now(6)", mark, x.now(6));
    }

    private void trail(String when, Run x, int ago, int slide, int step, int mark) {
        c.same(when + ": trail(" + ago + ", 0)", slide, x.trail(ago, 0));
        c.same(when + ": trail(" + ago + ", 1)", step, x.trail(ago, 1));
        c.same(when + ": trail(" + ago + ", 2)", mark, x.trail(ago, 2));
    }

    /** "There is a presentation or there is none (at first)." */
    private void noneAtFirst() {
        Run x = Run.deck(2);
        Check.type(x, "t1");
        for (int what = 0; what <= 6; what++) {
            c.same("none at first: now(" + what + ")", RevealDeck.NONE, x.now(what));
        }
        c.same("none at first: trail(0, 0)", RevealDeck.NONE, x.trail(0, 0));
        c.same("none at first: labels()", RevealDeck.NONE, x.labels());
        c.same("none at first: noteNow()", RevealDeck.NONE, x.noteNow());
        c.same("none at first: movesLeft()", RevealDeck.NONE, x.movesLeft());
        c.same("none at first: fewest(0)", RevealDeck.NONE, x.fewest(0));
        c.same("none at first: secondsLeft()", RevealDeck.NONE, x.secondsLeft());
        c.same("none at first: backTo()", RevealDeck.NONE, x.backTo());
        c.refused(x, "none at first: stop()", RevealDeck.NOT_POSSIBLE, RevealDeck::stop);
        c.refused(x, "none at first: forward()", RevealDeck.NOT_POSSIBLE, RevealDeck::forward);
        c.refused(x, "none at first: back()", RevealDeck.NOT_POSSIBLE, RevealDeck::back);
        c.refused(x, "none at first: press(0)", RevealDeck.NOT_POSSIBLE, d -> d.press(0));
        c.refused(x, "none at first: tick(1)", RevealDeck.NOT_POSSIBLE, d -> d.tick(1));
        c.same("none at first: run()", 0, x.run());
        c.same("none at first: why(0)", 0, x.why(0));
        c.same("none at first: why(2)", RevealDeck.NONE, x.why(2));
        c.same("none at first: removeSlide(0) is possible", 1, x.removeSlide(0));
    }

    /** Two slides with the final step 9, the pause 1 and keys to each other: there are moves of all kinds. */
    private static Run twoLongSlides() {
        Run x = Run.deck(2);
        for (int slide = 0; slide <= 1; slide++) {
            x.addItem(slide, 9, -1, 1);
            x.setPause(slide, 1);
            x.link(slide, 0, 1 - slide);
        }
        x.start();
        return x;
    }

    /** "each move puts the position that there was at the end of the trail and sets waited to 0" */
    private void movesPutThePositionAtTheEnd() {
        move("forward()", 0, 1, 0, 3, 0, Run::forward);
        move("press(0)", 1, 0, 1, 3, 0, x -> x.press(0));
        move("run() of f", 0, 1, 0, 3, 0, x -> typeAndRun(x, "f"));
        move("run() of k0", 1, 0, 1, 3, 0, x -> typeAndRun(x, "k0"));
        Run x = twoLongSlides();
        x.setPause(0, 4);
        x.tick(3);
        move("tick(1)", x, 0, 1, 0, 4, 0, d -> d.tick(1));
        move("tick(8)", 0, 1, 0, 11, 5, d -> {
            d.setPause(0, 6);
            return d.tick(8);
        });
    }

    private static int typeAndRun(Run x, String text) {
        Check.type(x, text);
        return x.run();
    }

    private void move(String call, int slide, int step, int mark, int clock, int waited, ToIntFunction<Run> action) {
        Run x = twoLongSlides();
        x.setPause(0, 0);
        x.tick(3);
        move(call, x, slide, step, mark, clock, waited, action);
    }

    private void move(String call, Run x, int slide, int step, int mark, int clock, int waited, ToIntFunction<Run> action) {
        c.same("move: waited before " + call, 3, x.now(3));
        c.same("move: " + call + " is possible (1 for yes)", 1, action.applyAsInt(x) >= 0 ? 1 : 0);
        position("move: " + call, x, slide, step, mark);
        c.same("move: the trail behind " + call, 1, x.now(4));
        trail("move: " + call, x, 0, 0, 0, 0);
        c.same("move: the clock behind " + call, clock, x.now(2));
        c.same("move: waited behind " + call, waited, x.now(3));
    }

    /** "if the trail has 41 positions then, the oldest one is dropped": by each kind of move. */
    private void oldestOf41IsDropped() {
        dropped("forward()", Run::forward, 1, 0);
        dropped("tick(1)", x -> x.tick(1), 1, 0);
        dropped("press(0)", x -> x.press(0), 10, 1);
        dropped("run() of f", x -> typeAndRun(x, "f"), 1, 0);
        dropped("run() of k0", x -> typeAndRun(x, "k0"), 10, 1);
        dropped("run() of t1", x -> typeAndRun(x, "t1"), 1, 0);
    }

    /** Five slides of 10 steps; by forward steps position n is at slide n / 10 and step n % 10. */
    private static Run fiveLongSlides() {
        Run x = Run.deck(5);
        for (int slide = 0; slide <= 4; slide++) {
            x.addItem(slide, 9, -1, 1);
            x.setPause(slide, 1);
            x.link(slide, 0, (slide + 1) % 5);
        }
        x.start();
        return x;
    }

    /** Each move goes so many positions on, and leads to a position with this mark. */
    private void dropped(String call, ToIntFunction<Run> move, int on, int mark) {
        Run x = fiveLongSlides();
        for (int moves = 1; moves <= 40; moves++) {
            move.applyAsInt(x);
            c.same("41st: now(4) by " + call, moves, x.now(4));
        }
        trail("41st: not yet by " + call, x, 39, 0, 0, 0);
        for (int more = 1; more <= 3; more++) {
            move.applyAsInt(x);
            c.same("41st: now(4) by " + call, 40, x.now(4));
            int oldest = more * on % 50;
            trail("41st: the oldest by " + call, x, 39, oldest / 10, oldest % 10, mark);
            int latest = (39 + more) * on % 50;
            trail("41st: the latest by " + call, x, 0, latest / 10, latest % 10, mark);
            c.same("41st: no 41st by " + call, RevealDeck.NONE, x.trail(40, 0));
        }
    }

    /** "if the trail has 41 positions then, the oldest one is dropped": so back is possible 40 times. */
    private void backFromAFullTrail() {
        Run x = fiveLongSlides();
        c.same("full trail: tick(45)", 45, x.tick(45));
        for (int left = 39; left >= 0; left--) {
            int at = 5 + left;
            c.same("full trail: back()", at % 10, x.back());
            c.same("full trail: now(0)", at / 10, x.now(0));
            c.same("full trail: now(4)", left, x.now(4));
        }
        c.refused(x, "full trail: back() the 41st time", RevealDeck.NOT_POSSIBLE, RevealDeck::back);
        position("full trail: the oldest that was kept", x, 0, 5, 0);
    }

    /** "Forward: if the step is below the final step of the slide, the step becomes greater by 1." */
    private void forwardByAStep() {
        for (int finalStep = 1; finalStep <= 9; finalStep++) {
            Run x = Run.deck(2);
            x.addItem(0, finalStep, -1, 1);
            x.start();
            for (int step = 1; step <= finalStep; step++) {
                c.same("a step: forward()", step, x.forward());
                position("a step", x, 0, step, 0);
            }
            c.same("a step: not above the final one", 0, x.forward());
            position("a step: not above the final one", x, 1, 0, 0);
        }
    }

    /** "Otherwise, the next slide in the order that is not hidden comes, with the step 0." */
    private void forwardToTheNextSlide() {
        for (int hidden = 0; hidden < 64; hidden++) {
            Run x = Run.deck(6);
            x.moveSlide(5, 0);
            x.moveSlide(0, 2);
            x.start();
            for (int place = 1; place <= 5; place++) {
                x.hide(x.slideAt(place), (hidden >> place & 1) == 1);
            }
            x.hide(x.slideAt(0), (hidden & 1) == 1);
            for (int place = 1; place <= 5; place++) {
                if ((hidden >> place & 1) == 0) {
                    c.same("next slide: forward()", 0, x.forward());
                    position("next slide: the hidden ones are " + hidden, x, x.slideAt(place), 0, 0);
                }
            }
            c.same("next slide: then there is none", RevealDeck.NOT_POSSIBLE, x.forward());
        }
    }

    /** "If there is none, this move is not possible.": the order does not begin anew. */
    private void forwardIsNotPossible() {
        Run x = Run.deck(3);
        x.addItem(1, 1, -1, 1);
        x.start();
        x.forward();
        x.moveSlide(1, 2);
        c.same("no next slide: a step is possible", 1, x.forward());
        c.refused(x, "no next slide: at the end of the order", RevealDeck.NOT_POSSIBLE, RevealDeck::forward);
        x.moveSlide(0, 2);
        x.hide(0, true);
        c.refused(x, "no next slide: the others are hidden", RevealDeck.NOT_POSSIBLE, RevealDeck::forward);
        x.hide(0, false);
        c.same("no next slide: one is shown again", 0, x.forward());
        c.same("no next slide: now(0)", 0, x.now(0));
        Run one = Run.deck(1);
        one.start();
        c.refused(one, "no next slide: the only one", RevealDeck.NOT_POSSIBLE, RevealDeck::forward);
    }

    /** "By a key: the target of the link of the slide with this key comes, with the step 0, whether the target is hidden or not." */
    private void byAKey() {
        for (int key = 0; key <= 9; key++) {
            Run x = Run.deck(3);
            x.addItem(0, 2, -1, 1);
            x.addItem(2, 5, -1, 1);
            x.link(0, key, 2);
            x.link(2, key, 0);
            x.link(2, (key + 1) % 10, 2);
            x.start();
            x.forward();
            c.same("key: press", 2, x.press(key));
            position("key: to a slide", x, 2, 0, 1);
            x.hide(0, true);
            x.forward();
            c.same("key: press", 0, x.press(key));
            position("key: to a hidden slide", x, 0, 0, 1);
            x.hide(2, true);
            x.press(key);
            x.forward();
            c.same("key: press", 2, x.press((key + 1) % 10));
            position("key: to the same slide, hidden", x, 2, 0, 1);
            c.same("key: all were moves", 7, x.now(4));
        }
    }

    /** "If there is no such link, this move is not possible." */
    private void byAKeyIsNotPossible() {
        Run x = Run.deck(2);
        x.link(0, 3, 1);
        x.link(1, 4, 0);
        x.start();
        for (int i = 0; i <= 9; i++) {
            int key = i;
            if (key != 3) {
                c.refused(x, "no such link: press(" + key + ")", RevealDeck.NOT_POSSIBLE, d -> d.press(key));
            }
        }
        x.unlink(0, 3);
        c.refused(x, "no such link: any more", RevealDeck.NOT_POSSIBLE, d -> d.press(3));
        x.link(0, 3, 1);
        x.removeSlide(1);
        c.refused(x, "no such link: its target is gone", RevealDeck.NOT_POSSIBLE, d -> d.press(3));
        x.addSlide();
        c.refused(x, "no such link: though there is a new slide", RevealDeck.NOT_POSSIBLE, d -> d.press(3));
    }

    /** "positions are removed from the end of the trail, until one is removed whose slide exists, and which is marked (see below) or whose slide is not hidden" */
    private void backOverSlides() {
        for (int gone = 0; gone < 16; gone++) {
            for (int hidden = 0; hidden < 16; hidden++) {
                Run x = Run.deck(5);
                x.start();
                for (int slide = 1; slide <= 4; slide++) {
                    x.forward();
                }
                int latest = -1;
                for (int slide = 0; slide <= 3; slide++) {
                    if ((gone >> slide & 1) == 1) {
                        x.removeSlide(slide);
                    } else if ((hidden >> slide & 1) == 1) {
                        x.hide(slide, true);
                    } else {
                        latest = slide;
                    }
                }
                String when = "back over slides: " + gone + " are gone, " + hidden + " are hidden";
                c.same(when + ": backTo()", latest == -1 ? RevealDeck.NONE : latest, x.backTo());
                c.same(when + ": back()", latest == -1 ? RevealDeck.NOT_POSSIBLE : 0, x.back());
                c.same(when + ": now(0)", latest == -1 ? 4 : latest, x.now(0));
                c.same(when + ": now(4)", latest == -1 ? 4 : latest, x.now(4));
            }
        }
    }

    /** "this one becomes the position, with its mark and its step, or with the final step of the slide if the step is greater than that" */
    private void backToTheFinalStep() {
        for (int finalStep = 0; finalStep <= 9; finalStep++) {
            for (int step = 0; step <= 9; step++) {
                Run x = Run.deck(3);
                x.addItem(1, 9, -1, 1);
                x.addItem(1, finalStep, -1, 1);
                x.link(0, 1, 1);
                x.start();
                x.press(1);
                for (int i = 1; i <= step; i++) {
                    x.forward();
                }
                x.link(1, 2, 2);
                x.press(2);
                x.removeItem(1, 0);
                trail("final step: as it was", x, 0, 1, step, 1);
                c.same("final step: back()", Math.min(step, finalStep), x.back());
                position("final step: back()", x, 1, Math.min(step, finalStep), 1);
            }
        }
    }

    /** "If no such position is in the trail, this is not possible, and the trail stays as it is." */
    private void backIsNotPossible() {
        Run x = Run.deck(3);
        x.start();
        c.refused(x, "no way back: the trail is empty", RevealDeck.NOT_POSSIBLE, RevealDeck::back);
        x.forward();
        x.hide(0, true);
        c.refused(x, "no way back: hidden", RevealDeck.NOT_POSSIBLE, RevealDeck::back);
        x.forward();
        x.removeSlide(1);
        c.refused(x, "no way back: hidden and gone", RevealDeck.NOT_POSSIBLE, RevealDeck::back);
        trail("no way back: the trail stays", x, 0, 1, 0, 0);
        trail("no way back: the trail stays", x, 1, 0, 0, 0);
        c.same("no way back: the trail stays", 2, x.now(4));
        x.hide(0, false);
        c.same("no way back: but if it is shown again", 0, x.back());
        position("no way back: but if it is shown again", x, 0, 0, 0);
        c.refused(x, "no way back: the trail is empty again", RevealDeck.NOT_POSSIBLE, RevealDeck::back);
    }

    /** "Waited becomes 0." */
    private void backSetsWaited() {
        Run x = Run.deck(2);
        x.start();
        x.tick(2);
        x.forward();
        x.tick(7);
        c.same("back and waited: before", 7, x.now(3));
        c.same("back and waited: back()", 0, x.back());
        c.same("back and waited: now(3)", 0, x.now(3));
        c.same("back and waited: the clock goes on from there", 9, x.now(2));
        x.tick(1);
        x.hide(1, true);
        c.same("back and waited: not possible", RevealDeck.NOT_POSSIBLE, x.back());
        c.same("back and waited: so it stays", 1, x.now(3));
    }

    /** "A position in the trail is marked if it is a position that was reached by a key, or by forward steps on the same slide from such a position." */
    private void markedByAKeyAndSteps() {
        Run x = Run.deck(3);
        x.addItem(0, 1, -1, 1);
        x.addItem(1, 3, -1, 1);
        x.setPause(1, 1);
        x.link(0, 7, 1);
        x.start();
        position("marks: start", x, 0, 0, 0);
        x.forward();
        position("marks: a step from there", x, 0, 1, 0);
        x.press(7);
        position("marks: by a key", x, 1, 0, 1);
        x.forward();
        position("marks: a step from there", x, 1, 1, 1);
        x.tick(1);
        position("marks: a step by the clock", x, 1, 2, 1);
        Check.type(x, "f");
        x.run();
        position("marks: a step by run", x, 1, 3, 1);
        x.forward();
        position("marks: the next slide", x, 2, 0, 0);
        int[][] due = {{1, 3, 1}, {1, 2, 1}, {1, 1, 1}, {1, 0, 1}, {0, 1, 0}, {0, 0, 0}};
        for (int ago = 0; ago < due.length; ago++) {
            trail("marks", x, ago, due[ago][0], due[ago][1], due[ago][2]);
        }
        x.back();
        x.back();
        position("marks: back to a step from a key", x, 1, 2, 1);
        x.forward();
        position("marks: a step from there", x, 1, 3, 1);
        trail("marks: a step from there", x, 0, 1, 2, 1);
        for (int i = 0; i < 4; i++) {
            x.back();
        }
        position("marks: back to one before the key", x, 0, 1, 0);
        x.press(7);
        x.start();
        position("marks: start", x, 0, 0, 0);
    }

    /** "A marked position is taken by back also if its slide is hidden." */
    private void backToAMarkedHiddenSlide() {
        Run x = Run.deck(4);
        x.addItem(1, 2, -1, 1);
        x.link(0, 7, 1);
        x.link(2, 8, 3);
        x.start();
        x.press(7);
        x.forward();
        x.forward();
        x.forward();
        x.press(8);
        x.hide(0, true);
        x.hide(1, true);
        x.hide(2, true);
        c.same("marked and hidden: backTo()", 1, x.backTo());
        for (int step = 2; step >= 0; step--) {
            c.same("marked and hidden: back()", step, x.back());
            position("marked and hidden", x, 1, step, 1);
        }
        c.refused(x, "marked and hidden: but not one that is hidden only", RevealDeck.NOT_POSSIBLE, RevealDeck::back);
        x.hide(3, true);
        x.forward();
        x.forward();
        x.link(1, 0, 3);
        x.press(0);
        x.removeSlide(1);
        c.refused(x, "marked and hidden: but not one that is gone", RevealDeck.NOT_POSSIBLE, RevealDeck::back);
        c.same("marked and hidden: the trail stays", 4, x.now(4));
    }

    /** "When the clock goes on by one second, the clock and waited become greater by 1" */
    private void clockGoesOn() {
        Run x = Run.deck(2);
        x.start();
        int clock = 0;
        for (int seconds = 1; seconds <= 99; seconds++) {
            clock += seconds;
            c.same("clock: tick(" + seconds + ")", 0, x.tick(seconds));
            c.same("clock: now(2)", clock, x.now(2));
            c.same("clock: now(3)", clock, x.now(3));
        }
        c.refused(x, "clock: tick(0)", RevealDeck.BAD_VALUE, d -> d.tick(0));
        c.refused(x, "clock: tick(100)", RevealDeck.BAD_VALUE, d -> d.tick(100));
    }

    /** "the slide has a pause above 0, waited is at least this pause and the move forward is possible, this move is made" */
    private void moveAtThePause() {
        for (int pause = 0; pause <= 60; pause++) {
            Run x = Run.deck(3);
            x.addItem(0, 1, -1, 1);
            x.setPause(0, pause);
            x.start();
            if (pause == 0) {
                c.same("pause 0: no move", 0, x.tick(99));
                position("pause 0", x, 0, 0, 0);
                c.same("pause 0: waited", 99, x.now(3));
                continue;
            }
            if (pause > 1) {
                c.same("pause " + pause + ": one second less", 0, x.tick(pause - 1));
                position("pause " + pause + ": one second less", x, 0, 0, 0);
            }
            c.same("pause " + pause + ": at it", 1, x.tick(1));
            position("pause " + pause + ": a step", x, 0, 1, 0);
            c.same("pause " + pause + ": waited", 0, x.now(3));
            c.same("pause " + pause + ": once more", 1, x.tick(pause));
            position("pause " + pause + ": the next slide", x, 1, 0, 0);
            c.same("pause " + pause + ": the clock", 2 * pause, x.now(2));
            c.same("pause " + pause + ": the next slide has none", 0, x.tick(99));
        }
    }

    /** "waited is at least this pause": also if it was longer already. */
    private void waitedIsAtLeastThePause() {
        for (int pause = 29; pause <= 33; pause++) {
            Run x = Run.deck(2);
            x.start();
            x.tick(30);
            x.setPause(0, pause);
            int due = Math.max(1, pause - 30);
            c.same("waited 30, pause " + pause + ": secondsLeft()", due, x.secondsLeft());
            c.same("waited 30, pause " + pause + ": tick(1)", due == 1 ? 1 : 0, x.tick(1));
            c.same("waited 30, pause " + pause + ": tick(9)", due == 1 ? 0 : 1, x.tick(9));
            c.same("waited 30, pause " + pause + ": now(3)", 10 - due, x.now(3));
        }
    }

    /** "and the move forward is possible" */
    private void moveForwardMustBePossible() {
        Run x = Run.deck(2);
        x.setPause(0, 2);
        x.start();
        x.hide(1, true);
        c.same("no move by the clock: tick(9)", 0, x.tick(9));
        c.same("no move by the clock: waited goes on", 9, x.now(3));
        c.same("no move by the clock: the trail", 0, x.now(4));
        x.hide(1, false);
        c.same("no move by the clock: as soon as it is possible", 1, x.tick(1));
        c.same("no move by the clock: now(0)", 1, x.now(0));
    }

    /** "then, if the presentation is not over by that" */
    private void notOverByThatSecond() {
        for (int end = 1; end <= 9; end++) {
            Run x = Run.deck(3);
            x.setPause(0, 3);
            x.setPause(1, 3);
            x.setEnd(end);
            x.start();
            int moves = (end - 1) / 3;
            c.same("END " + end + ": tick(99)", Math.min(2, moves), x.tick(99));
            c.same("END " + end + ": the clock", end, x.now(2));
            c.same("END " + end + ": now(0)", Math.min(2, moves), x.now(0));
            c.same("END " + end + ": waited", end - 3 * Math.min(2, moves), x.now(3));
            c.refused(x, "END " + end + ": tick(1)", RevealDeck.NOT_POSSIBLE, d -> d.tick(1));
        }
    }

    /** "The presentation is over if END is above 0 and the clock is at least END: then no moves, no back and no seconds are possible any more." */
    private void overAtTheEnd() {
        Run x = twoLongSlides();
        x.setPause(0, 0);
        x.tick(20);
        x.forward();
        x.tick(10);
        for (int end : new int[] {1, 29, 30}) {
            x.setEnd(end);
            c.same("over: now(5)", 1, x.now(5));
            c.same("over: backTo()", RevealDeck.NONE, x.backTo());
            c.refused(x, "over: forward()", RevealDeck.NOT_POSSIBLE, RevealDeck::forward);
            c.refused(x, "over: back()", RevealDeck.NOT_POSSIBLE, RevealDeck::back);
            c.refused(x, "over: press(0)", RevealDeck.NOT_POSSIBLE, d -> d.press(0));
            c.refused(x, "over: tick(1)", RevealDeck.NOT_POSSIBLE, d -> d.tick(1));
            c.same("over: movesLeft() as if it were not", 18, x.movesLeft());
            c.same("over: fewest(1) as if it were not", 1, x.fewest(1));
        }
        IntConsumer notOver = end -> {
            Run y = x.again();
            y.setEnd(end);
            c.same("not over: now(5)", 0, y.now(5));
            c.same("not over: backTo()", 0, y.backTo());
            c.same("not over: forward()", 2, y.forward());
            c.same("not over: back()", 1, y.back());
            c.same("not over: press(0)", 1, y.press(0));
            c.same("not over: tick(1)", end == 31 ? 0 : 1, y.tick(1));
            c.same("not over: now(5)", end == 31 ? 1 : 0, y.now(5));
        };
        notOver.accept(0);
        notOver.accept(31);
        notOver.accept(9999);
        c.same("over: start() is possible", 0, x.start());
        c.same("over: the new one is not", 0, x.now(5));
        x.tick(30);
        c.same("over: and is in the end", 1, x.now(5));
        c.same("over: stop() is possible", 30, x.stop());
        c.same("over: none is not over", RevealDeck.NONE, x.now(5));
    }

    private static Run fullDeck(int pause) {
        Run x = Run.deck(10);
        for (int slide = 0; slide <= 9; slide++) {
            x.addItem(slide, 9, 9, 99);
            x.setPause(slide, pause);
        }
        x.start();
        return x;
    }

    /** "Returns the number of moves that were made": at most one a second, so 99, as many as there can be forward at all. */
    private void mostMovesOfATick() {
        Run x = fullDeck(1);
        c.same("99 moves: movesLeft()", 99, x.movesLeft());
        c.same("99 moves: fewest(9)", 90, x.fewest(9));
        c.same("99 moves: meanSteps()", 10, (int) x.meanSteps());
        c.same("99 moves: tick(99)", 99, x.tick(99));
        position("99 moves", x, 9, 9, 0);
        c.same("99 moves: now(4)", 40, x.now(4));
        c.same("99 moves: movesLeft()", 0, x.movesLeft());
        c.same("99 moves: secondsLeft()", 0, x.secondsLeft());
        for (int i = 0; i < 5; i++) {
            x.addItem(9, 9, -1, 99);
        }
        c.same("99 moves: the greatest sum of labels", 594, x.labels());
        c.same("99 moves: the greatest picture", 63, x.picture(9, 9));
    }

    /** "Tells in how many seconds the last move forward would be made": at most 99 moves of 60 seconds. */
    private void longestForecast() {
        Run x = fullDeck(60);
        c.same("5940 seconds: secondsLeft()", 5940, x.secondsLeft());
        for (int i = 0; i < 60; i++) {
            c.same("5940 seconds: tick(98) and tick(1)", (i * 99 + 99) / 60 - i * 99 / 60, x.tick(98) + x.tick(1));
        }
        position("5940 seconds", x, 9, 9, 0);
        c.same("5940 seconds: now(3)", 0, x.now(3));
        c.same("5940 seconds: secondsLeft()", 0, x.secondsLeft());
    }

    /** The clock has no greatest number: 15 times 99 seconds in each of the runs that 512 calls leave room for. */
    private void clockOfManyTicks() {
        Run x = Run.deck(1);
        x.start();
        Check.type(x, "t99;".repeat(14) + "t99");
        int runs = 0;
        while (x.callsLeft() > 4) {
            c.same("clock: run()", 15, x.run());
            runs++;
        }
        c.same("clock: now(2)", runs * 15 * 99, x.now(2));
        c.same("clock: now(3)", runs * 15 * 99, x.now(3));
        c.same("clock: stop()", runs * 15 * 99, x.stop());
    }
}
