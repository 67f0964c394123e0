/** Promises 1 to 12: a new object, and the actions that change the deck, the notes and END. */
final class DeckTest {
    public static void main(String[] args) {
        Check c = new Check("DeckTest");
        promise1(c);
        promise2(c);
        promise3(c);
        promise4(c);
        promise5(c);
        promise6(c);
        promise7(c);
        promise8(c);
        promise9(c);
        promise10(c);
        promise11(c);
        promise12(c);
        c.end();
    }

    private static void promise1(Check c) {
        Run x = new Run();
        c.same("1: slides()", 0, x.slides());
        c.same("1: slideAt(0)", RevealDeck.NONE, x.slideAt(0));
        c.same("1: now(0)", RevealDeck.NONE, x.now(0));
        c.same("1: end()", 0, x.end());
        c.same("1: fault()", 0, x.fault());
        c.same("1: clearText()", 0, x.clearText());
        c.same("1: why(0)", RevealDeck.NONE, x.why(0));
        c.same("1: undo()", RevealDeck.NONE, x.undo());
        c.same("1: note(0, -1)", RevealDeck.NO_SUCH, x.note(0, -1));
        c.same("1: note(0, 0)", 1, x.note(0, 0));
        c.sameFloat("1: meanSteps()", 0.0f, x.meanSteps());
    }

    private static void promise2(Check c) {
        Run x = new Run();
        for (int i = 0; i < 10; i++) {
            c.same("2: addSlide()", i, x.addSlide());
            c.same("2: slideAt", i, x.slideAt(i));
        }
        c.refused(x, "2: addSlide()", RevealDeck.TOO_MANY, RevealDeck::addSlide);
        x.removeSlide(7);
        x.removeSlide(3);
        c.same("2: the lowest free number", 3, x.addSlide());
        c.same("2: put at the end", 3, x.slideAt(8));
        c.same("2: the next free number", 7, x.addSlide());
        c.refused(x, "2: addSlide()", RevealDeck.TOO_MANY, RevealDeck::addSlide);
        for (int what = 1; what <= 5; what++) {
            c.same("2: a new slide is plain: slide(7, " + what + ")", 0, x.slide(7, what));
        }
    }

    private static void promise3(Check c) {
        Run x = Run.deck(4);
        c.refused(x, "3: removeSlide(-1)", RevealDeck.NO_SUCH, d -> d.removeSlide(-1));
        c.refused(x, "3: removeSlide(4)", RevealDeck.NO_SUCH, d -> d.removeSlide(4));
        c.refused(x, "3: removeSlide(10)", RevealDeck.NO_SUCH, d -> d.removeSlide(10));
        x.addItem(1, 2, 3, 4);
        x.hide(1, true);
        x.setPause(1, 5);
        x.link(1, 1, 2);
        x.link(0, 7, 1);
        x.link(0, 8, 2);
        x.link(2, 9, 1);
        x.start();
        x.press(7);
        c.refused(x, "3: removeSlide of the position", RevealDeck.NOT_POSSIBLE, d -> d.removeSlide(1));
        x.tick(1);
        x.setEnd(1);
        c.refused(x, "3: also if it is over", RevealDeck.NOT_POSSIBLE, d -> d.removeSlide(1));
        x.setEnd(0);
        x.press(1);
        c.same("3: removeSlide(1)", 3, x.removeSlide(1));
        c.same("3: slideAt(0)", 0, x.slideAt(0));
        c.same("3: slideAt(1)", 2, x.slideAt(1));
        c.same("3: slideAt(2)", 3, x.slideAt(2));
        c.same("3: slideAt(3)", RevealDeck.NONE, x.slideAt(3));
        c.same("3: links to it are gone", RevealDeck.NONE, x.target(0, 7));
        c.same("3: links to it are gone", RevealDeck.NONE, x.target(2, 9));
        c.same("3: other links stay", 2, x.target(0, 8));
        c.same("3: links are counted anew", 1, x.slide(0, 5));
        c.same("3: its position stays in the trail", 1, x.trail(0, 0));
        c.same("3: hidden slides", 0, x.hide(0, false));
        c.refused(x, "3: removeSlide(1) again", RevealDeck.NO_SUCH, d -> d.removeSlide(1));
        c.same("3: addSlide()", 1, x.addSlide());
        for (int what = 1; what <= 5; what++) {
            c.same("3: nothing of the old slide is left: slide(1, " + what + ")", 0, x.slide(1, what));
        }
        c.same("3: no old link", RevealDeck.NONE, x.target(1, 1));
        x.stop();
        c.same("3: without a presentation any slide goes", 3, x.removeSlide(2));
        c.same("3: and the next", 2, x.removeSlide(0));
        c.same("3: and the next", 1, x.removeSlide(1));
        c.same("3: and the last", 0, x.removeSlide(3));
        Run y = Run.deck(10);
        y.link(0, 0, 9);
        y.link(0, 9, 9);
        y.link(0, 5, 8);
        c.same("3: removeSlide(9)", 9, y.removeSlide(9));
        c.same("3: a link by the key 0", RevealDeck.NONE, y.target(0, 0));
        c.same("3: a link by the key 9", RevealDeck.NONE, y.target(0, 9));
        c.same("3: the other link", 1, y.slide(0, 5));
    }

    private static void promise4(Check c) {
        Run x = Run.deck(5);
        c.same("4: moveSlide(1, 3)", 1, x.moveSlide(1, 3));
        c.same("4: order", 2314, order(x));
        c.same("4: moveSlide(1, 0)", 3, x.moveSlide(1, 0));
        c.same("4: order", 10234, order(x));
        c.same("4: moveSlide(1, 4)", 0, x.moveSlide(1, 4));
        c.same("4: order", 2341, order(x));
        c.same("4: moveSlide(3, 2)", 2, x.moveSlide(3, 2));
        c.same("4: order", 2341, order(x));
        c.same("4: moveSlide(4, 1)", 3, x.moveSlide(4, 1));
        c.same("4: order", 4231, order(x));
        c.refused(x, "4: moveSlide(5, 9)", RevealDeck.NO_SUCH, d -> d.moveSlide(5, 9));
        c.refused(x, "4: moveSlide(-1, 0)", RevealDeck.NO_SUCH, d -> d.moveSlide(-1, 0));
        c.refused(x, "4: moveSlide(0, -1)", RevealDeck.BAD_VALUE, d -> d.moveSlide(0, -1));
        c.refused(x, "4: moveSlide(0, 5)", RevealDeck.BAD_VALUE, d -> d.moveSlide(0, 5));
    }

    /** The numbers in the order as the digits of one number. */
    private static int order(Run x) {
        int digits = 0;
        for (int i = 0; i < x.slides(); i++) {
            digits = digits * 10 + x.slideAt(i);
        }
        return digits;
    }

    private static void promise5(Check c) {
        Run x = Run.deck(3);
        c.same("5: hide(0, true)", 1, x.hide(0, true));
        c.same("5: hide(2, true)", 2, x.hide(2, true));
        c.same("5: hide(2, true) again", 2, x.hide(2, true));
        c.same("5: slide(2, 1)", 1, x.slide(2, 1));
        c.same("5: slide(1, 1)", 0, x.slide(1, 1));
        c.same("5: hide(0, false)", 1, x.hide(0, false));
        c.same("5: hide(1, false)", 1, x.hide(1, false));
        x.start();
        c.same("5: the slide of the position too", 2, x.hide(0, true));
        c.same("5: the position stays", 0, x.now(0));
        c.refused(x, "5: hide(3, true)", RevealDeck.NO_SUCH, d -> d.hide(3, true));
        c.refused(x, "5: hide(-1, false)", RevealDeck.NO_SUCH, d -> d.hide(-1, false));
    }

    private static void promise6(Check c) {
        Run x = Run.deck(2);
        c.same("6: setPause(1, 60)", 0, x.setPause(1, 60));
        c.same("6: setPause(1, 0)", 60, x.setPause(1, 0));
        c.same("6: setPause(1, 1)", 0, x.setPause(1, 1));
        c.same("6: slide(1, 2)", 1, x.slide(1, 2));
        c.same("6: slide(0, 2)", 0, x.slide(0, 2));
        c.refused(x, "6: setPause(2, 61)", RevealDeck.NO_SUCH, d -> d.setPause(2, 61));
        c.refused(x, "6: setPause(1, 61)", RevealDeck.BAD_VALUE, d -> d.setPause(1, 61));
        c.refused(x, "6: setPause(1, -1)", RevealDeck.BAD_VALUE, d -> d.setPause(1, -1));
    }

    private static void promise7(Check c) {
        Run x = Run.deck(2);
        c.same("7: addItem(1, 0, -1, 0)", 0, x.addItem(1, 0, -1, 0));
        c.same("7: addItem(1, 9, 9, 99)", 1, x.addItem(1, 9, 9, 99));
        c.same("7: addItem(1, 4, 4, 5)", 2, x.addItem(1, 4, 4, 5));
        c.same("7: addItem(1, 9, -1, 1)", 3, x.addItem(1, 9, -1, 1));
        c.same("7: item(1, 2, 0)", 4, x.item(1, 2, 0));
        c.same("7: item(1, 2, 1)", 4, x.item(1, 2, 1));
        c.same("7: item(1, 2, 2)", 5, x.item(1, 2, 2));
        c.same("7: item(1, 3, 1)", RevealDeck.NONE, x.item(1, 3, 1));
        c.refused(x, "7: addItem(2, 10, 0, 0)", RevealDeck.NO_SUCH, d -> d.addItem(2, 10, 0, 0));
        c.refused(x, "7: first 10", RevealDeck.BAD_VALUE, d -> d.addItem(1, 10, -1, 0));
        c.refused(x, "7: first 10, last 10", RevealDeck.BAD_VALUE, d -> d.addItem(1, 10, 10, 0));
        c.refused(x, "7: first -1", RevealDeck.BAD_VALUE, d -> d.addItem(1, -1, -1, 0));
        c.refused(x, "7: last below first", RevealDeck.BAD_VALUE, d -> d.addItem(1, 5, 4, 0));
        c.refused(x, "7: last -2", RevealDeck.BAD_VALUE, d -> d.addItem(1, 0, -2, 0));
        c.refused(x, "7: last 10", RevealDeck.BAD_VALUE, d -> d.addItem(1, 0, 10, 0));
        c.refused(x, "7: label 100", RevealDeck.BAD_VALUE, d -> d.addItem(1, 0, -1, 100));
        c.refused(x, "7: label -1", RevealDeck.BAD_VALUE, d -> d.addItem(1, 0, -1, -1));
        c.same("7: the fifth", 4, x.addItem(1, 1, 2, 3));
        c.same("7: the sixth", 5, x.addItem(1, 1, 2, 3));
        c.refused(x, "7: the seventh", RevealDeck.TOO_MANY, d -> d.addItem(1, 1, 2, 3));
        c.refused(x, "7: BAD_VALUE before TOO_MANY", RevealDeck.BAD_VALUE, d -> d.addItem(1, 1, 2, 100));
        c.same("7: another slide has room", 0, x.addItem(0, 1, 2, 3));
    }

    private static void promise8(Check c) {
        Run x = Run.deck(2);
        x.addItem(0, 1, -1, 10);
        x.addItem(0, 2, 8, 20);
        x.addItem(0, 3, -1, 30);
        c.refused(x, "8: removeItem(2, 0)", RevealDeck.NO_SUCH, d -> d.removeItem(2, 0));
        c.refused(x, "8: removeItem(0, -1)", RevealDeck.NO_SUCH, d -> d.removeItem(0, -1));
        c.refused(x, "8: removeItem(0, 3)", RevealDeck.NO_SUCH, d -> d.removeItem(0, 3));
        c.refused(x, "8: removeItem(1, 0)", RevealDeck.NO_SUCH, d -> d.removeItem(1, 0));
        x.start();
        for (int i = 0; i < 9; i++) {
            x.forward();
        }
        c.same("8: at the final step", 9, x.now(1));
        x.tick(2);
        c.same("8: removeItem(0, 0)", 2, x.removeItem(0, 0));
        c.same("8: the step stays while it can", 9, x.now(1));
        c.same("8: those behind move up", 2, x.item(0, 0, 0));
        c.same("8: those behind move up", 8, x.item(0, 0, 1));
        c.same("8: those behind move up", 20, x.item(0, 0, 2));
        c.same("8: those behind move up", 30, x.item(0, 1, 2));
        c.same("8: those behind move up", RevealDeck.NONE, x.item(0, 1, 1));
        c.same("8: removeItem(0, 0)", 1, x.removeItem(0, 0));
        c.same("8: the step becomes the final one", 3, x.now(1));
        c.same("8: that is no move: waited stays", 2, x.now(3));
        c.same("8: that is no move: the trail stays", 9, x.now(4));
        c.same("8: removeItem(0, 0)", 0, x.removeItem(0, 0));
        c.same("8: without items the step is 0", 0, x.now(1));
        x.addItem(1, 5, -1, 1);
        x.addItem(0, 3, -1, 1);
        x.forward();
        c.same("8: an item of another slide", 0, x.removeItem(1, 0));
        c.same("8: the step stays", 1, x.now(1));
        x.addItem(1, 2, -1, 1);
        x.addItem(1, 7, 7, 1);
        c.same("8: the last of two", 1, x.removeItem(1, 1));
        c.same("8: the final step without it", 2, x.slide(1, 4));
        c.same("8: the picture without it", 1, x.picture(1, 7));
    }

    private static void promise9(Check c) {
        Run x = Run.deck(4);
        c.same("9: link(0, 0, 1)", 1, x.link(0, 0, 1));
        c.same("9: to itself", 2, x.link(0, 9, 0));
        c.same("9: link(0, 4, 3)", 3, x.link(0, 4, 3));
        c.same("9: replaced", 3, x.link(0, 9, 2));
        c.same("9: target(0, 9)", 2, x.target(0, 9));
        c.same("9: target(0, 0)", 1, x.target(0, 0));
        c.refused(x, "9: the fourth", RevealDeck.TOO_MANY, d -> d.link(0, 5, 1));
        c.refused(x, "9: link(4, 10, 0)", RevealDeck.NO_SUCH, d -> d.link(4, 10, 0));
        c.refused(x, "9: link(0, 10, 4)", RevealDeck.NO_SUCH, d -> d.link(0, 10, 4));
        c.refused(x, "9: link(0, 1, -1)", RevealDeck.NO_SUCH, d -> d.link(0, 1, -1));
        c.refused(x, "9: link(0, 9, -1)", RevealDeck.NO_SUCH, d -> d.link(0, 9, -1));
        c.refused(x, "9: BAD_VALUE before TOO_MANY", RevealDeck.BAD_VALUE, d -> d.link(0, 10, 1));
        c.refused(x, "9: link(1, -1, 1)", RevealDeck.BAD_VALUE, d -> d.link(1, -1, 1));
        c.same("9: another slide has room", 1, x.link(1, 5, 1));
    }

    private static void promise10(Check c) {
        Run x = Run.deck(2);
        x.link(0, 0, 1);
        x.link(0, 9, 1);
        c.same("10: unlink(0, 9)", 1, x.unlink(0, 9));
        c.same("10: target(0, 9)", RevealDeck.NONE, x.target(0, 9));
        c.same("10: target(0, 0)", 1, x.target(0, 0));
        c.refused(x, "10: no link for this key", RevealDeck.NO_SUCH, d -> d.unlink(0, 9));
        c.refused(x, "10: key 10", RevealDeck.NO_SUCH, d -> d.unlink(0, 10));
        c.refused(x, "10: key -1", RevealDeck.NO_SUCH, d -> d.unlink(0, -1));
        c.refused(x, "10: no slide", RevealDeck.NO_SUCH, d -> d.unlink(2, 0));
        c.refused(x, "10: another slide", RevealDeck.NO_SUCH, d -> d.unlink(1, 0));
        c.same("10: unlink(0, 0)", 0, x.unlink(0, 0));
        c.same("10: room again", 1, x.link(0, 3, 0));
    }

    private static void promise11(Check c) {
        Run x = Run.deck(1);
        x.start();
        c.refused(x, "11: note(-1, 0)", RevealDeck.BAD_VALUE, d -> d.note(-1, 0));
        c.refused(x, "11: note(10000, -1)", RevealDeck.BAD_VALUE, d -> d.note(10000, -1));
        c.refused(x, "11: note(0, -2)", RevealDeck.BAD_VALUE, d -> d.note(0, -2));
        c.refused(x, "11: note(0, 100)", RevealDeck.BAD_VALUE, d -> d.note(0, 100));
        c.refused(x, "11: note(0, -1)", RevealDeck.NO_SUCH, d -> d.note(0, -1));
        c.same("11: note(9999, 99)", 1, x.note(9999, 99));
        c.same("11: note(0, 0)", 2, x.note(0, 0));
        c.same("11: changed", 2, x.note(0, 7));
        c.same("11: noteNow()", 7, x.noteNow());
        for (int i = 1; i <= 6; i++) {
            c.same("11: note(" + i + ", " + i + ")", 2 + i, x.note(i, i));
        }
        c.refused(x, "11: the ninth", RevealDeck.TOO_MANY, d -> d.note(7, 7));
        c.refused(x, "11: NO_SUCH before TOO_MANY", RevealDeck.NO_SUCH, d -> d.note(7, -1));
        c.same("11: changed though full", 8, x.note(6, 66));
        c.same("11: note(0, -1)", 7, x.note(0, -1));
        c.same("11: noteNow()", RevealDeck.NONE, x.noteNow());
        c.same("11: room again", 8, x.note(7, 7));
        c.same("11: note(9999, -1)", 7, x.note(9999, -1));
        x.note(50, 5);
        c.same("11: the newest goes", 7, x.note(50, -1));
        c.refused(x, "11: note(9999, -1) again", RevealDeck.NO_SUCH, d -> d.note(9999, -1));
        for (int i = 1; i <= 7; i++) {
            x.tick(1);
            c.same("11: the others are as they were", i == 6 ? 66 : i, x.noteNow());
        }
    }

    private static void promise12(Check c) {
        Run x = new Run();
        c.same("12: setEnd(9999)", 0, x.setEnd(9999));
        c.same("12: end()", 9999, x.end());
        c.same("12: setEnd(1)", 9999, x.setEnd(1));
        c.refused(x, "12: setEnd(-1)", RevealDeck.BAD_VALUE, d -> d.setEnd(-1));
        c.refused(x, "12: setEnd(10000)", RevealDeck.BAD_VALUE, d -> d.setEnd(10000));
        c.same("12: setEnd(0)", 1, x.setEnd(0));
        c.same("12: end()", 0, x.end());
    }
}
