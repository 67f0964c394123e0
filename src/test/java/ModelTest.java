import java.util.Random;

/** Promises 1 to 40: long runs of calls by numbers from a fixed seed, each answer against the model's. */
final class ModelTest {
    private static final int RUNS = 300;
    private static final int CALLS = 512;

    private final Check c;
    private final Random random;
    private final RevealDeck x = new RevealDeck();
    private final Model m = new Model();
    /** How often the deck is changed, in hundredths; the other calls are mostly moves. */
    private final int changes;
    private final String run;

    private ModelTest(Check c, int seed) {
        this.c = c;
        this.random = new Random(seed);
        this.changes = 10 + random.nextInt(50);
        this.run = "run " + seed;
    }

    public static void main(String[] args) {
        Check c = new Check("ModelTest");
        for (int seed = 1; seed <= RUNS; seed++) {
            new ModelTest(c, seed).play();
        }
        c.end();
    }

    private void play() {
        for (int call = 1; call <= CALLS; call++) {
            int kind = random.nextInt(100);
            if (call < 40 || kind < changes) {
                change();
            } else if (kind < 90) {
                move();
            } else {
                textCall();
            }
            look();
            if (call % 64 == 0) {
                lookAtAll();
            }
        }
    }

    private void same(String call, long due, long got) {
        c.same(run + ": " + call, due, got);
    }

    /** Mostly from least to most, now and then a little outside or far off. */
    private int about(int least, int most) {
        int kind = random.nextInt(40);
        if (kind == 0) {
            return least - 1;
        }
        if (kind == 1) {
            return most + 1;
        }
        if (kind == 2) {
            return random.nextInt();
        }
        return least + random.nextInt(most - least + 1);
    }

    private int someSlide() {
        int count = x.slides();
        return count > 0 && random.nextInt(8) > 0 ? x.slideAt(random.nextInt(count)) : about(0, 9);
    }

    private void change() {
        int slide = someSlide();
        int a = 0;
        int b = 0;
        switch (random.nextInt(24)) {
            case 0, 1, 2, 3 -> same("addSlide()", m.addSlide(), x.addSlide());
            case 4 -> same("removeSlide(" + slide + ")", m.removeSlide(slide), x.removeSlide(slide));
            case 5, 6 -> {
                a = about(0, 9);
                same("moveSlide(" + slide + ", " + a + ")", m.moveSlide(slide, a), x.moveSlide(slide, a));
            }
            case 7 -> same("hide(" + slide + ", true)", m.hide(slide, true), x.hide(slide, true));
            case 8 -> same("hide(" + slide + ", false)", m.hide(slide, false), x.hide(slide, false));
            case 9, 10 -> {
                a = random.nextInt(3) == 0 ? about(0, 60) : about(0, 6);
                same("setPause(" + slide + ", " + a + ")", m.setPause(slide, a), x.setPause(slide, a));
            }
            case 11, 12, 13, 14 -> changeItem(slide);
            case 15 -> {
                a = about(0, 5);
                same("removeItem(" + slide + ", " + a + ")", m.removeItem(slide, a), x.removeItem(slide, a));
            }
            case 16, 17 -> {
                a = about(0, 9);
                b = someSlide();
                same("link(" + slide + ", " + a + ", " + b + ")", m.link(slide, a, b), x.link(slide, a, b));
            }
            case 18 -> {
                a = about(0, 9);
                same("unlink(" + slide + ", " + a + ")", m.unlink(slide, a), x.unlink(slide, a));
            }
            case 19, 20 -> {
                a = random.nextBoolean() ? about(0, 9999) : about(0, 20);
                b = random.nextInt(4) == 0 ? -1 : about(0, 99);
                same("note(" + a + ", " + b + ")", m.note(a, b), x.note(a, b));
            }
            case 21 -> {
                a = random.nextInt(4) == 0 ? about(0, 9999) : random.nextBoolean() ? 0 : about(0, 300);
                same("setEnd(" + a + ")", m.setEnd(a), x.setEnd(a));
            }
            case 22 -> same("undo()", m.undo(), x.undo());
            default -> {
                if (random.nextInt(6) == 0) {
                    same("stop()", m.stop(), x.stop());
                } else {
                    same("start()", m.start(), x.start());
                }
            }
        }
    }

    private void changeItem(int slide) {
        int first = about(0, random.nextBoolean() ? 3 : 9);
        int last = random.nextBoolean() ? -1 : about(Math.min(9, Math.max(0, first)), 9);
        int label = about(0, 99);
        same("addItem(" + slide + ", " + first + ", " + last + ", " + label + ")", m.addItem(slide, first, last, label), x.addItem(slide, first, last, label));
    }

    private void move() {
        int a = 0;
        switch (random.nextInt(10)) {
            case 0, 1, 2, 3 -> same("forward()", m.act(Model.World::forward), x.forward());
            case 4, 5 -> same("back()", m.act(Model.World::back), x.back());
            case 6, 7 -> {
                int key = linkedKey();
                same("press(" + key + ")", m.act(w -> w.press(key)), x.press(key));
            }
            case 8 -> {
                int seconds = random.nextBoolean() ? about(1, 99) : about(1, 8);
                same("tick(" + seconds + ")", m.act(w -> w.tick(seconds)), x.tick(seconds));
            }
            default -> {
                a = random.nextInt(3);
                if (a == 0) {
                    same("undo()", m.undo(), x.undo());
                } else if (x.now(0) == RevealDeck.NONE || random.nextInt(20) == 0) {
                    same("start()", m.start(), x.start());
                }
            }
        }
    }

    /** Mostly a key for which the slide of the position has a link. */
    private int linkedKey() {
        int key = about(0, 9);
        for (int i = 0; i < 10 && random.nextInt(10) > 0 && x.target(x.now(0), key) < 0; i++) {
            key = (key & 7) == key ? key + 1 : 0;
        }
        return key;
    }

    private static final String[] MOVES = {"f", "f", "b", "k0", "k3", "k9", "t1", "t9", "t10", "t99", "f", "t2"};

    private void textCall() {
        int kind = random.nextInt(12);
        if (kind < 3) {
            same("clearText()", m.clearText(), x.clearText());
            int moves = 1 + random.nextInt(random.nextBoolean() ? 3 : 25);
            for (int i = 0; i < moves; i++) {
                addText((i == 0 ? "" : ";") + MOVES[random.nextInt(MOVES.length)]);
            }
        } else if (kind < 5) {
            String signs = "fbkt0123456789;; x";
            int character = random.nextInt(4) == 0 ? about(32, 126) : signs.charAt(random.nextInt(signs.length()));
            same("append(" + character + ")", m.append(character), x.append(character));
        } else {
            same("run() of " + m.text, m.run(), x.run());
        }
    }

    private void addText(String added) {
        if (m.text.length() + added.length() > 60 && random.nextInt(10) > 0) {
            return;
        }
        for (int i = 0; i < added.length(); i++) {
            same("append(" + (int) added.charAt(i) + ")", m.append(added.charAt(i)), x.append(added.charAt(i)));
        }
    }

    private void look() {
        for (int what = -1; what <= 7; what++) {
            same("now(" + what + ")", m.now(what), x.now(what));
        }
        for (int what = -1; what <= 4; what++) {
            same("why(" + what + ")", m.why(what), x.why(what));
        }
        int ago = about(0, 40);
        int what = about(0, 2);
        same("trail(" + ago + ", " + what + ")", m.trail(ago, what), x.trail(ago, what));
        int slide = someSlide();
        int number = about(0, 5);
        same("slide(" + slide + ", " + number + ")", m.slide(slide, number), x.slide(slide, number));
        same("item(" + slide + ", " + number + ", " + what + ")", m.item(slide, number, what), x.item(slide, number, what));
        int step = about(0, 9);
        same("picture(" + slide + ", " + step + ")", m.picture(slide, step), x.picture(slide, step));
        same("target(" + slide + ", " + step + ")", m.target(slide, step), x.target(slide, step));
        same("slideAt(" + step + ")", m.slideAt(step), x.slideAt(step));
        same("fewest(" + slide + ")", m.fewest(slide), x.fewest(slide));
        same("slides()", m.world.order.size(), x.slides());
        same("fault() of " + m.text, m.fault(), x.fault());
        same("labels()", m.labels(), x.labels());
        same("noteNow()", m.noteNow(), x.noteNow());
        same("end()", m.world.end, x.end());
        same("movesLeft()", m.movesLeft(), x.movesLeft());
        same("secondsLeft()", m.secondsLeft(), x.secondsLeft());
        same("backTo()", m.backTo(), x.backTo());
        c.sameFloat(run + ": meanSteps()", m.meanSteps(), x.meanSteps());
    }

    private void lookAtAll() {
        for (int slide = -1; slide <= 10; slide++) {
            same("slideAt(" + slide + ")", m.slideAt(slide), x.slideAt(slide));
            same("fewest(" + slide + ")", m.fewest(slide), x.fewest(slide));
            for (int i = -1; i <= 10; i++) {
                same("slide(" + slide + ", " + i + ")", m.slide(slide, i), x.slide(slide, i));
                same("picture(" + slide + ", " + i + ")", m.picture(slide, i), x.picture(slide, i));
                same("target(" + slide + ", " + i + ")", m.target(slide, i), x.target(slide, i));
                for (int what = -1; what <= 3; what++) {
                    same("item(" + slide + ", " + i + ", " + what + ")", m.item(slide, i, what), x.item(slide, i, what));
                }
            }
        }
        for (int ago = -1; ago <= 41; ago++) {
            for (int what = -1; what <= 3; what++) {
                same("trail(" + ago + ", " + what + ")", m.trail(ago, what), x.trail(ago, what));
            }
        }
    }
}
