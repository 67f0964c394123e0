/** Promises 25 to 36: what there is. */
final class LookTest {
    public static void main(String[] args) {
        Check c = new Check("LookTest");
        promise25And26(c);
        promise27(c);
        promise27FinalStep(c);
        promise28(c);
        promise29(c);
        promise30(c);
        promise31(c);
        promise32(c);
        promise33(c);
        promise34(c);
        promise35(c);
        promise36(c);
        c.end();
    }

    private static void promise25And26(Check c) {
        Run x = new Run();
        c.same("25: slides()", 0, x.slides());
        c.same("26: slideAt(0)", RevealDeck.NONE, x.slideAt(0));
        c.same("26: slideAt(-1)", RevealDeck.BAD_VALUE, x.slideAt(-1));
        for (int i = 1; i <= 10; i++) {
            x.addSlide();
            c.same("25: slides()", i, x.slides());
        }
        x.removeSlide(0);
        x.hide(1, true);
        c.same("25: slides(), hidden ones too", 9, x.slides());
        c.same("26: slideAt(0), hidden ones too", 1, x.slideAt(0));
        c.same("26: slideAt(8)", 9, x.slideAt(8));
        c.same("26: slideAt(9)", RevealDeck.NONE, x.slideAt(9));
        c.same("26: slideAt(10)", RevealDeck.NONE, x.slideAt(10));
        c.same("26: slideAt(2147483647)", RevealDeck.NONE, x.slideAt(Integer.MAX_VALUE));
        c.same("26: slideAt(-2147483648)", RevealDeck.BAD_VALUE, x.slideAt(Integer.MIN_VALUE));
    }

    private static void promise27(Check c) {
        Run x = Run.deck(3);
        x.moveSlide(2, 0);
        x.hide(2, true);
        x.setPause(2, 17);
        x.addItem(2, 4, -1, 1);
        x.addItem(2, 0, 5, 1);
        x.link(2, 5, 0);
        x.link(2, 6, 0);
        x.link(2, 7, 2);
        int[] due = {0, 1, 17, 2, 6, 3};
        int[] plain = {2, 0, 0, 0, 0, 0};
        for (int what = 0; what <= 5; what++) {
            c.same("27: slide(2, " + what + ")", due[what], x.slide(2, what));
            c.same("27: slide(1, " + what + ")", plain[what], x.slide(1, what));
        }
        c.same("27: slide(3, 9)", RevealDeck.NO_SUCH, x.slide(3, 9));
        c.same("27: slide(-1, 0)", RevealDeck.NO_SUCH, x.slide(-1, 0));
        c.same("27: slide(0, -1)", RevealDeck.BAD_VALUE, x.slide(0, -1));
        c.same("27: slide(0, 6)", RevealDeck.BAD_VALUE, x.slide(0, 6));
    }

    private static void promise27FinalStep(Check c) {
        Run x = Run.deck(1);
        int[][] items = {{0, -1, 0}, {0, 0, 1}, {1, -1, 1}, {1, 2, 3}, {2, 2, 3}, {0, 9, 3}};
        for (int[] item : items) {
            x.addItem(0, item[0], item[1], 0);
            c.same("27: final step with (" + item[0] + ", " + item[1] + ")", item[2], x.slide(0, 4));
        }
        x.removeItem(0, 5);
        x.addItem(0, 0, 8, 0);
        c.same("27: final step with the last step 8", 9, x.slide(0, 4));
        Run y = Run.deck(2);
        y.addItem(0, 0, 9, 0);
        c.same("27: final step with the last step 9", 0, y.slide(0, 4));
        y.addItem(1, 9, 9, 0);
        c.same("27: final step with (9, 9)", 9, y.slide(1, 4));
    }

    private static void promise28(Check c) {
        Run x = Run.deck(2);
        x.addItem(0, 3, 9, 0);
        x.addItem(0, 0, -1, 99);
        x.addItem(0, 0, 0, 1);
        int[][] due = {{3, 9, 0}, {0, RevealDeck.NONE, 99}, {0, 0, 1}};
        for (int place = 0; place < 3; place++) {
            for (int what = 0; what <= 2; what++) {
                c.same("28: item(0, " + place + ", " + what + ")", due[place][what], x.item(0, place, what));
            }
        }
        c.same("28: item(0, 3, 3)", RevealDeck.NO_SUCH, x.item(0, 3, 3));
        c.same("28: item(0, -1, 0)", RevealDeck.NO_SUCH, x.item(0, -1, 0));
        c.same("28: item(1, 0, 0)", RevealDeck.NO_SUCH, x.item(1, 0, 0));
        c.same("28: item(2, 0, 0)", RevealDeck.NO_SUCH, x.item(2, 0, 0));
        c.same("28: item(-1, 0, 0)", RevealDeck.NO_SUCH, x.item(-1, 0, 0));
        c.same("28: item(0, 0, -1)", RevealDeck.BAD_VALUE, x.item(0, 0, -1));
        c.same("28: item(0, 0, 3)", RevealDeck.BAD_VALUE, x.item(0, 0, 3));
    }

    private static void promise29(Check c) {
        Run x = Run.deck(3);
        x.link(0, 0, 2);
        x.link(0, 9, 0);
        c.same("29: target(0, 0)", 2, x.target(0, 0));
        c.same("29: target(0, 9)", 0, x.target(0, 9));
        c.same("29: target(0, 1)", RevealDeck.NONE, x.target(0, 1));
        c.same("29: target(2, 0)", RevealDeck.NONE, x.target(2, 0));
        c.same("29: target(3, 10)", RevealDeck.NO_SUCH, x.target(3, 10));
        c.same("29: target(-1, 0)", RevealDeck.NO_SUCH, x.target(-1, 0));
        c.same("29: target(0, 10)", RevealDeck.BAD_VALUE, x.target(0, 10));
        c.same("29: target(0, -1)", RevealDeck.BAD_VALUE, x.target(0, -1));
    }

    private static void promise30(Check c) {
        Run x = Run.deck(2);
        x.addItem(0, 0, -1, 1);
        x.addItem(0, 2, 4, 1);
        x.addItem(0, 4, 4, 1);
        x.addItem(0, 9, 9, 1);
        x.addItem(0, 0, 0, 1);
        x.addItem(0, 5, -1, 1);
        int[] due = {17, 1, 3, 3, 7, 33, 33, 33, 33, 41};
        for (int step = 0; step <= 9; step++) {
            c.same("30: picture(0, " + step + ")", due[step], x.picture(0, step));
            c.same("30: picture(1, " + step + ")", 0, x.picture(1, step));
        }
        c.same("30: picture(0, 10)", RevealDeck.BAD_VALUE, x.picture(0, 10));
        c.same("30: picture(0, -1)", RevealDeck.BAD_VALUE, x.picture(0, -1));
        c.same("30: picture(2, 10)", RevealDeck.NO_SUCH, x.picture(2, 10));
        c.same("30: picture(-1, 0)", RevealDeck.NO_SUCH, x.picture(-1, 0));
        x.start();
        x.forward();
        x.forward();
        x.forward();
        int seen = x.picture(x.now(0), x.now(1));
        x.forward();
        x.back();
        c.same("30: back to the same picture", seen, x.picture(x.now(0), x.now(1)));
    }

    private static void promise31(Check c) {
        Run x = Run.deck(2);
        for (int what = 0; what <= 6; what++) {
            c.same("31: no presentation: now(" + what + ")", RevealDeck.NONE, x.now(what));
        }
        c.same("31: now(-1)", RevealDeck.BAD_VALUE, x.now(-1));
        c.same("31: now(7)", RevealDeck.BAD_VALUE, x.now(7));
        x.addItem(1, 1, -1, 1);
        x.link(0, 3, 1);
        x.start();
        now(c, x, 0, 0, 0, 0, 0, 0, 0);
        x.tick(5);
        x.press(3);
        now(c, x, 1, 0, 5, 0, 1, 0, 1);
        x.tick(3);
        x.forward();
        x.tick(2);
        now(c, x, 1, 1, 10, 2, 2, 0, 1);
        x.setEnd(10);
        now(c, x, 1, 1, 10, 2, 2, 1, 1);
        x.setEnd(11);
        now(c, x, 1, 1, 10, 2, 2, 0, 1);
        x.setEnd(9);
        now(c, x, 1, 1, 10, 2, 2, 1, 1);
        x.setEnd(0);
        x.back();
        x.back();
        now(c, x, 0, 0, 10, 0, 0, 0, 0);
        c.same("31: now(-1)", RevealDeck.BAD_VALUE, x.now(-1));
        c.same("31: now(7)", RevealDeck.BAD_VALUE, x.now(7));
    }

    private static void now(Check c, Run x, int... due) {
        for (int what = 0; what <= 6; what++) {
            c.same("31: now(" + what + ")", due[what], x.now(what));
        }
    }

    private static void promise32(Check c) {
        Run x = Run.deck(3);
        c.same("32: trail(0, 0)", RevealDeck.NONE, x.trail(0, 0));
        c.same("32: trail(-1, 0)", RevealDeck.BAD_VALUE, x.trail(-1, 0));
        c.same("32: trail(0, 3)", RevealDeck.BAD_VALUE, x.trail(0, 3));
        x.addItem(1, 2, -1, 1);
        x.link(0, 3, 1);
        x.start();
        c.same("32: empty", RevealDeck.NONE, x.trail(0, 0));
        x.press(3);
        x.forward();
        x.forward();
        x.forward();
        int[][] due = {{1, 2, 1}, {1, 1, 1}, {1, 0, 1}, {0, 0, 0}};
        for (int ago = 0; ago < 4; ago++) {
            for (int what = 0; what <= 2; what++) {
                c.same("32: trail(" + ago + ", " + what + ")", due[ago][what], x.trail(ago, what));
            }
        }
        c.same("32: trail(4, 0)", RevealDeck.NONE, x.trail(4, 0));
        c.same("32: trail(2147483647, 2)", RevealDeck.NONE, x.trail(Integer.MAX_VALUE, 2));
        c.same("32: trail(-1, 0)", RevealDeck.BAD_VALUE, x.trail(-1, 0));
        c.same("32: trail(-2147483648, 0)", RevealDeck.BAD_VALUE, x.trail(Integer.MIN_VALUE, 0));
        c.same("32: trail(0, -1)", RevealDeck.BAD_VALUE, x.trail(0, -1));
        c.same("32: trail(0, 3)", RevealDeck.BAD_VALUE, x.trail(0, 3));
        x.back();
        c.same("32: after back", 1, x.trail(0, 1));
        x.stop();
        c.same("32: after stop", RevealDeck.NONE, x.trail(0, 0));
    }

    private static void promise33(Check c) {
        Run x = Run.deck(2);
        x.addItem(0, 0, 0, 1);
        x.addItem(0, 0, 1, 10);
        x.addItem(0, 1, -1, 99);
        x.addItem(1, 1, -1, 50);
        c.same("33: no presentation", RevealDeck.NONE, x.labels());
        x.start();
        c.same("33: step 0", 11, x.labels());
        x.forward();
        c.same("33: step 1", 109, x.labels());
        x.forward();
        c.same("33: step 2", 99, x.labels());
        x.forward();
        c.same("33: nothing is seen", 0, x.labels());
        x.forward();
        c.same("33: step 1 of the other slide", 50, x.labels());
        x.addItem(1, 0, -1, 7);
        c.same("33: one more", 57, x.labels());
        x.removeItem(1, 1);
        c.same("33: without it", 50, x.labels());
    }

    private static void promise34(Check c) {
        Run x = Run.deck(1);
        x.note(3, 30);
        x.note(100, 0);
        x.note(1, 10);
        c.same("34: no presentation", RevealDeck.NONE, x.noteNow());
        x.note(0, 5);
        c.same("34: no presentation, though there is a note at 0", RevealDeck.NONE, x.noteNow());
        x.note(0, -1);
        x.start();
        int[] due = {RevealDeck.NONE, 10, 10, 30, 30};
        for (int second = 0; second < due.length; second++) {
            c.same("34: noteNow() at " + second, due[second], x.noteNow());
            x.tick(1);
        }
        x.tick(94);
        c.same("34: noteNow() at 99", 30, x.noteNow());
        x.tick(1);
        c.same("34: noteNow() at 100", 0, x.noteNow());
        x.note(100, -1);
        c.same("34: without that note", 30, x.noteNow());
        x.note(0, 5);
        c.same("34: an earlier note", 30, x.noteNow());
        x.start();
        c.same("34: noteNow() at 0", 5, x.noteNow());
    }

    private static void promise35(Check c) {
        Run x = new Run();
        c.same("35: end()", 0, x.end());
        x.setEnd(77);
        c.same("35: end()", 77, x.end());
        x.undo();
        c.same("35: end()", 0, x.end());
    }

    private static void promise36(Check c) {
        Run x = new Run();
        c.sameFloat("36: no slides", 0.0f, x.meanSteps());
        x.addSlide();
        c.sameFloat("36: one slide", 1.0f, x.meanSteps());
        x.addItem(0, 2, 4, 1);
        c.sameFloat("36: final step 5", 6.0f, x.meanSteps());
        x.addSlide();
        c.sameFloat("36: two slides", 3.5f, x.meanSteps());
        x.addSlide();
        x.hide(2, true);
        c.sameFloat("36: three slides, one hidden", 8.0f / 3.0f, x.meanSteps());
        x.removeSlide(0);
        x.removeSlide(1);
        x.removeSlide(2);
        c.sameFloat("36: no slides again", 0.0f, x.meanSteps());
    }
}
