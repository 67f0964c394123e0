import java.util.Random;

/** Promises 1 to 40: runs of calls by numbers from fixed seeds, each answer against the model's. */
final class ModelTest {
    private static final int RUNS = 4000;
    /** So many calls are left for what is looked at in the end. */
    private static final int SPARE = 135;
    /** So many calls a text needs at the most. */
    private static final int TYPED = 110;

    private final Check c;
    private final Random random;
    private final Run x = new Run();
    private final Model m = new Model();
    /** How often the deck is changed, in hundredths; the other calls are mostly moves. */
    private final int changes;
    /** How many calls look at something behind each call that may change something. */
    private final int looks;
    private final String run;

    private ModelTest(Check c, int seed) {
        this.c = c;
        this.random = new Random(seed);
        this.changes = 5 + random.nextInt(50);
        this.looks = random.nextInt(4);
        this.run = "run " + seed;
    }

    public static void main(String[] args) {
        Check c = new Check("ModelTest");
        for (int seed = 1; seed <= RUNS; seed++) {
            new ModelTest(c, seed).play();
        }
        c.end();
    }

    private void play() {
        int spare = SPARE + random.nextInt(2) * random.nextInt(300);
        for (int step = 0; x.callsLeft() > spare; step++) {
            int kind = random.nextInt(100);
            if (step < 40 || kind < changes) {
                change();
            } else if (kind < 90 || x.callsLeft() < spare + TYPED) {
                move();
            } else {
                textCall();
            }
            for (int i = 0; i < looks; i++) {
                look();
            }
        }
        c.sameText(run, Looks.stateOf(() -> m), Looks.stateOf(x::again));
        while (x.callsLeft() > 0) {
            look();
        }
    }

    private void same(String call, long due, long got) {
        c.same(run + ": " + call, due, got);
    }

    /** Mostly from least to most, now and then a little outside or far off. */
    private int about(int least, int most) {
        int kind = random.nextInt(40);
        if (kind == 0) {
            return least - 1;
        }
        if (kind == 1) {
            return most + 1;
        }
        if (kind == 2) {
            return random.nextInt();
        }
        return least + random.nextInt(most - least + 1);
    }

    private int someSlide() {
        int count = m.slides();
        return count > 0 && random.nextInt(8) > 0 ? m.slideAt(random.nextInt(count)) : about(0, 9);
    }

    private void change() {
        int slide = someSlide();
        int a = 0;
        int b = 0;
        switch (random.nextInt(24)) {
            case 0, 1, 2, 3 -> same("addSlide()", m.addSlide(), x.addSlide());
            case 4 -> same("removeSlide(" + slide + ")", m.removeSlide(slide), x.removeSlide(slide));
            case 5, 6 -> {
                a = about(0, 9);
                same("moveSlide(" + slide + ", " + a + ")", m.moveSlide(slide, a), x.moveSlide(slide, a));
            }
            case 7 -> same("hide(" + slide + ", true)", m.hide(slide, true), x.hide(slide, true));
            case 8 -> same("hide(" + slide + ", false)", m.hide(slide, false), x.hide(slide, false));
            case 9, 10 -> {
                a = random.nextInt(3) == 0 ? about(0, 60) : about(0, 6);
                same("setPause(" + slide + ", " + a + ")", m.setPause(slide, a), x.setPause(slide, a));
            }
            case 11, 12, 13, 14 -> changeItem(slide);
            case 15 -> {
                a = about(0, 5);
                same("removeItem(" + slide + ", " + a + ")", m.removeItem(slide, a), x.removeItem(slide, a));
            }
            case 16, 17 -> {
                a = about(0, 9);
                b = someSlide();
                same("link(" + slide + ", " + a + ", " + b + ")", m.link(slide, a, b), x.link(slide, a, b));
            }
            case 18 -> {
                a = about(0, 9);
                same("unlink(" + slide + ", " + a + ")", m.unlink(slide, a), x.unlink(slide, a));
            }
            case 19, 20 -> {
                a = random.nextBoolean() ? about(0, 9999) : about(0, 20);
                b = random.nextInt(4) == 0 ? -1 : about(0, 99);
                same("note(" + a + ", " + b + ")", m.note(a, b), x.note(a, b));
            }
            case 21 -> {
                a = random.nextInt(4) == 0 ? about(0, 9999) : random.nextBoolean() ? 0 : about(0, 300);
                same("setEnd(" + a + ")", m.setEnd(a), x.setEnd(a));
            }
            case 22 -> same("undo()", m.undo(), x.undo());
            default -> {
                if (random.nextInt(6) == 0) {
                    same("stop()", m.stop(), x.stop());
                } else {
                    same("start()", m.start(), x.start());
                }
            }
        }
    }

    private void changeItem(int slide) {
        int first = about(0, random.nextBoolean() ? 3 : 9);
        int last = random.nextBoolean() ? -1 : about(Math.min(9, Math.max(0, first)), 9);
        int label = about(0, 99);
        same("addItem(" + slide + ", " + first + ", " + last + ", " + label + ")", m.addItem(slide, first, last, label), x.addItem(slide, first, last, label));
    }

    private void move() {
        int a = 0;
        switch (random.nextInt(10)) {
            case 0, 1, 2, 3 -> same("forward()", m.act(Model.World::forward), x.forward());
            case 4, 5 -> same("back()", m.act(Model.World::back), x.back());
            case 6, 7 -> {
                int key = linkedKey();
                same("press(" + key + ")", m.act(w -> w.press(key)), x.press(key));
            }
            case 8 -> {
                int seconds = random.nextBoolean() ? about(1, 99) : about(1, 8);
                same("tick(" + seconds + ")", m.act(w -> w.tick(seconds)), x.tick(seconds));
            }
            default -> {
                a = random.nextInt(3);
                if (a == 0) {
                    same("undo()", m.undo(), x.undo());
                } else if (m.now(0) == RevealDeck.NONE || random.nextInt(20) == 0) {
                    same("start()", m.start(), x.start());
                }
            }
        }
    }

    /** Mostly a key for which the slide of the position has a link. */
    private int linkedKey() {
        int key = about(0, 9);
        for (int i = 0; i < 10 && random.nextInt(10) > 0 && m.target(m.now(0), key) < 0; i++) {
            key = (key & 7) == key ? key + 1 : 0;
        }
        return key;
    }

    private static final String[] MOVES = {"f", "f", "b", "k0", "k3", "k9", "t1", "t9", "t10", "t99", "f", "t2"};

    private void textCall() {
        int kind = random.nextInt(12);
        if (kind < 3) {
            same("clearText()", m.clearText(), x.clearText());
            int moves = 1 + random.nextInt(random.nextBoolean() ? 3 : 25);
            for (int i = 0; i < moves; i++) {
                addText((i == 0 ? "" : ";") + MOVES[random.nextInt(MOVES.length)]);
            }
        } else if (kind < 5) {
            String signs = "fbkt0123456789;; x";
            int character = random.nextInt(4) == 0 ? about(32, 126) : signs.charAt(random.nextInt(signs.length()));
            same("append(" + character + ")", m.append(character), x.append(character));
        } else {
            same("run() of " + m.text, m.run(), x.run());
        }
    }

    private void addText(String added) {
        if (m.text.length() + added.length() > 60 && random.nextInt(10) > 0) {
            return;
        }
        for (int i = 0; i < added.length(); i++) {
            same("append(" + (int) added.charAt(i) + ")", m.append(added.charAt(i)), x.append(added.charAt(i)));
        }
    }

    private void look() {
        int slide = someSlide();
        int what = about(0, 6);
        int place = about(0, 9);
        switch (random.nextInt(18)) {
            case 0 -> same("slides()", m.slides(), x.slides());
            case 1 -> same("slideAt(" + place + ")", m.slideAt(place), x.slideAt(place));
            case 2 -> same("slide(" + slide + ", " + what + ")", m.slide(slide, what), x.slide(slide, what));
            case 3 -> same("item(" + slide + ", " + place / 2 + ", " + what / 2 + ")", m.item(slide, place / 2, what / 2), x.item(slide, place / 2, what / 2));
            case 4 -> same("target(" + slide + ", " + place + ")", m.target(slide, place), x.target(slide, place));
            case 5 -> same("picture(" + slide + ", " + place + ")", m.picture(slide, place), x.picture(slide, place));
            case 6, 7, 8 -> same("now(" + what + ")", m.now(what), x.now(what));
            case 9 -> same("trail(" + place + ", " + what / 2 + ")", m.trail(place, what / 2), x.trail(place, what / 2));
            case 10 -> same("labels()", m.labels(), x.labels());
            case 11 -> same("noteNow()", m.noteNow(), x.noteNow());
            case 12 -> same("end()", m.end(), x.end());
            case 13 -> c.sameFloat(run + ": meanSteps()", m.meanSteps(), x.meanSteps());
            case 14 -> same("movesLeft()", m.movesLeft(), x.movesLeft());
            case 15 -> same("fewest(" + slide + ")", m.fewest(slide), x.fewest(slide));
            case 16 -> same("secondsLeft()", m.secondsLeft(), x.secondsLeft());
            default -> lookAtText();
        }
    }

    private void lookAtText() {
        int what = about(0, 3);
        same("why(" + what + ")", m.why(what), x.why(what));
        if (x.callsLeft() >= 2) {
            same("fault() of " + m.text, m.fault(), x.fault());
            same("backTo()", m.backTo(), x.backTo());
        }
    }
}
