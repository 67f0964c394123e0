/** Promises 19 to 24: the text, run with its report, and the history. */
final class TextTest {
    public static void main(String[] args) {
        Check c = new Check("TextTest");
        promise19(c);
        promise20(c);
        promise21(c);
        promise22(c);
        promise23(c);
        promise24(c);
        promise24NoActions(c);
        c.end();
    }

    private static void promise19(Check c) {
        Run x = new Run();
        c.refused(x, "19: append(31)", RevealDeck.BAD_VALUE, d -> d.append(31));
        c.refused(x, "19: append(127)", RevealDeck.BAD_VALUE, d -> d.append(127));
        c.refused(x, "19: append(65536 + 102)", RevealDeck.BAD_VALUE, d -> d.append(65536 + 102));
        c.same("19: append(32)", 1, x.append(32));
        c.same("19: append(126)", 2, x.append(126));
        for (int i = 3; i <= 60; i++) {
            c.same("19: append(102)", i, x.append(102));
        }
        c.refused(x, "19: full", RevealDeck.TOO_MANY, d -> d.append(102));
        c.refused(x, "19: full, and a bad value", RevealDeck.BAD_VALUE, d -> d.append(127));
        c.same("19: the length", 60, x.clearText());
    }

    private static void promise20(Check c) {
        Run x = new Run();
        Check.type(x, "f;b");
        c.same("20: clearText()", 3, x.clearText());
        c.same("20: it is empty", 0, x.clearText());
        Check.type(x, "b");
        c.same("20: nothing of the old text", RevealDeck.NONE, x.fault());
        c.same("20: nothing of the old text", 1, x.clearText());
    }

    private static void promise21(Check c) {
        String[] good = {"f", "b", "k0", "k9", "t1", "t9", "t10", "t99", "f;f", "k5;t30;b;f", "t5;k5"};
        for (String text : good) {
            fault(c, text, RevealDeck.NONE);
        }
        String[] unfinished = {"", "k", "t", "f;", "t5;", "t55;", "k5;", "f;k", "b;t"};
        for (String text : unfinished) {
            fault(c, text, text.length());
        }
        String[] badAtTheEnd = {" ", "x", ";", "1", "F", "ff", "f ", "fb", "k;", "kf", "k55", "t0", "t;", "t100", "t990", "k5f", "t5f", "t5k", "t5 ", "f;;", "f; ", "t/", "t:", "k/", "k:", "t5/", "t5:", "a", "g"};
        for (String text : badAtTheEnd) {
            fault(c, text, text.length() - 1);
        }
        fault(c, "f;x;f", 2);
        fault(c, "t00", 1);
        String long60 = "f;".repeat(30);
        fault(c, long60, 60);
        fault(c, "t1;" + "f;".repeat(28) + "k", 60);
        fault(c, "t1;" + "f;".repeat(28) + "x", 59);
        fault(c, "t1;" + "f;".repeat(28) + "f", RevealDeck.NONE);
    }

    private static void fault(Check c, String text, int due) {
        Run x = Run.deck(1);
        Check.type(x, text);
        c.same("21: fault() of '" + text + "'", due, x.fault());
        c.same("21: run() of '" + text + "'", due == RevealDeck.NONE ? 0 : RevealDeck.BAD_TEXT, x.run());
    }

    private static void promise22(Check c) {
        Run x = Run.deck(3);
        c.refused(x, "22: the empty text", RevealDeck.BAD_TEXT, RevealDeck::run);
        Check.type(x, "f;f;");
        c.refused(x, "22: not complete", RevealDeck.BAD_TEXT, RevealDeck::run);
        x.append('b');
        c.same("22: no presentation", 0, x.run());
        x.start();
        c.same("22: f;f;b", 3, x.run());
        c.same("22: the position", 1, x.now(0));
        c.same("22: the trail", 1, x.now(4));
        x.link(1, 7, 2);
        x.link(1, 1, 0);
        x.setPause(2, 5);
        Check.type(x, "k7;t12;k7;f");
        c.same("22: up to the first that is not possible", 2, x.run());
        c.same("22: the position", 2, x.now(0));
        c.same("22: a number of two digits", 12, x.now(2));
        c.same("22: the text stays", 11, x.clearText());
        Check.type(x, "t3;t9;t1");
        x.setEnd(14);
        c.same("22: tick up to the end counts as a move", 1, x.run());
        c.same("22: the clock", 14, x.now(2));
        Check.type(x, "b");
        c.same("22: over", 0, x.run());
        x.setEnd(0);
        Check.type(x, "b;k1");
        c.same("22: keys", 2, x.run());
        c.same("22: the position", 0, x.now(0));
    }

    private static void promise23(Check c) {
        Run x = Run.deck(2);
        for (int what = 0; what <= 3; what++) {
            c.same("23: no run yet: why(" + what + ")", RevealDeck.NONE, x.why(what));
        }
        c.same("23: why(-1)", RevealDeck.BAD_VALUE, x.why(-1));
        c.same("23: why(4)", RevealDeck.BAD_VALUE, x.why(4));
        Check.type(x, "t12;f;k5;f");
        x.run();
        why(c, "without a presentation", x, 0, 0, RevealDeck.NONE, RevealDeck.NONE);
        x.addItem(1, 1, -1, 1);
        x.start();
        c.same("23: run()", 2, x.run());
        why(c, "at k5", x, 2, 6, 1, 0);
        x.forward();
        x.back();
        x.back();
        x.clearText();
        why(c, "as it was then", x, 2, 6, 1, 0);
        c.same("23: a bad text", RevealDeck.BAD_TEXT, x.run());
        why(c, "a bad text leaves it", x, 2, 6, 1, 0);
        x.undo();
        why(c, "undo leaves it", x, 2, 6, 1, 0);
        x.stop();
        x.removeSlide(1);
        why(c, "stop and removeSlide leave it", x, 2, 6, 1, 0);
        x.undo();
        x.undo();
        x.start();
        Check.type(x, "f;f;t99;f");
        x.run();
        why(c, "with a step", x, 3, 8, 1, 1);
        x.back();
        Check.type(x, "f");
        c.same("23: run()", 1, x.run());
        why(c, "all were made", x, RevealDeck.NONE, RevealDeck.NONE, RevealDeck.NONE, RevealDeck.NONE);
        c.same("23: why(4)", RevealDeck.BAD_VALUE, x.why(4));
        x.stop();
        x.run();
        why(c, "stopped", x, 0, 0, RevealDeck.NONE, RevealDeck.NONE);
    }

    private static void why(Check c, String when, Run x, int move, int character, int slide, int step) {
        c.same("23: " + when + ": why(0)", move, x.why(0));
        c.same("23: " + when + ": why(1)", character, x.why(1));
        c.same("23: " + when + ": why(2)", slide, x.why(2));
        c.same("23: " + when + ": why(3)", step, x.why(3));
    }

    private static void promise24(Check c) {
        Run x = Run.deck(2);
        x.setEnd(5);
        x.setEnd(6);
        x.setEnd(7);
        x.setEnd(8);
        x.setEnd(9);
        c.same("24: the latest", 3, x.undo());
        c.same("24: end()", 8, x.end());
        c.same("24: undo()", 2, x.undo());
        c.same("24: undo()", 1, x.undo());
        c.same("24: undo()", 0, x.undo());
        c.same("24: the fifth was dropped", 5, x.end());
        c.same("24: undo()", RevealDeck.NONE, x.undo());
        c.same("24: it changes nothing", 5, x.end());
        x.setEnd(6);
        c.same("24: recorded anew", 0, x.undo());
        c.same("24: end()", 5, x.end());
        Run y = Run.deck(2);
        y.addItem(0, 1, -1, 1);
        y.link(1, 5, 0);
        y.start();
        y.forward();
        y.forward();
        y.press(5);
        y.forward();
        String before = Looks.stateOf(y::again);
        y.link(0, 5, 1);
        y.start();
        y.press(5);
        y.press(5);
        y.undo();
        y.undo();
        y.undo();
        y.undo();
        c.sameText("24: the trail as it was", before, Looks.stateOf(y::again));
        Check.type(x, "f");
        x.addSlide();
        x.undo();
        c.same("24: the text stays", 1, x.clearText());
    }

    /** An error and what is no action record nothing. */
    private static void promise24NoActions(Check c) {
        Run x = Run.deck(10);
        for (int i = 0; i < 4; i++) {
            x.undo();
        }
        x.removeSlide(99);
        x.moveSlide(0, 99);
        x.hide(-5, true);
        x.setPause(0, 99);
        x.addItem(0, 0, -1, 100);
        x.removeItem(0, 0);
        x.link(0, 0, -1);
        x.unlink(0, 0);
        x.note(5, -1);
        x.setEnd(-1);
        x.stop();
        x.forward();
        x.back();
        x.press(0);
        x.tick(1);
        x.run();
        x.append('f');
        x.clearText();
        x.fault();
        x.why(0);
        c.same("24: no error and no other call is recorded", RevealDeck.NONE, x.undo());
        Run y = new Run();
        y.start();
        c.same("24: start() that is not possible", RevealDeck.NONE, y.undo());
        y.addSlide();
        y.start();
        y.removeSlide(0);
        y.forward();
        y.back();
        c.same("24: only addSlide() and start() were recorded", 1, y.undo());
        Run z = Run.deck(10);
        z.addSlide();
        z.start();
        for (int left = 3; left >= 0; left--) {
            c.same("24: four are kept of eleven", left, z.undo());
        }
        c.same("24: four are kept of eleven", RevealDeck.NONE, z.undo());
    }
}
