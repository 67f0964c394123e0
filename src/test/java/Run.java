import java.util.ArrayList;
import java.util.List;
import java.util.function.ToIntFunction;

/**
 * A new object and the calls made on it so far, so that the same can be made again on another one.
 * It refuses a call after the 512th one: what that would answer is free.
 */
final class Run implements Looks {
    static final int MOST_CALLS = 512;

    private final RevealDeck made = new RevealDeck();
    private final List<ToIntFunction<RevealDeck>> calls = new ArrayList<>();

    /** A new object with so many slides. */
    static Run deck(int slides) {
        Run run = new Run();
        for (int i = 0; i < slides; i++) {
            run.addSlide();
        }
        return run;
    }

    /** Three slides in a presentation, notes, an end, a text, a report, a full history; most actions are possible on it. */
    static Run busy() {
        Run x = deck(3);
        x.setPause(0, 3);
        x.addItem(0, 2, -1, 10);
        x.addItem(0, 1, 1, 30);
        x.addItem(1, 0, 1, 20);
        x.link(0, 1, 2);
        x.link(1, 8, 2);
        x.link(2, 1, 1);
        x.link(1, 9, 0);
        x.note(4, 4);
        x.note(99, 9);
        x.setEnd(500);
        x.start();
        x.tick(4);
        Check.type(x, "k1;f");
        x.run();
        x.press(1);
        x.forward();
        Check.type(x, "t6;b;f;k8");
        return x;
    }

    /** Another object, with the same calls made on it. */
    Run again() {
        Run other = new Run();
        for (ToIntFunction<RevealDeck> call : calls) {
            other.call(call);
        }
        return other;
    }

    int callsLeft() {
        return MOST_CALLS - calls.size();
    }

    int call(ToIntFunction<RevealDeck> call) {
        if (callsLeft() == 0) {
            throw new IllegalStateException("a test asks for more calls than the document promises");
        }
        calls.add(call);
        return call.applyAsInt(made);
    }

    int addSlide() {
        return call(d -> d.addSlide());
    }

    int removeSlide(int slide) {
        return call(d -> d.removeSlide(slide));
    }

    int moveSlide(int slide, int place) {
        return call(d -> d.moveSlide(slide, place));
    }

    int hide(int slide, boolean isHidden) {
        return call(d -> d.hide(slide, isHidden));
    }

    int setPause(int slide, int seconds) {
        return call(d -> d.setPause(slide, seconds));
    }

    int addItem(int slide, int first, int last, int label) {
        return call(d -> d.addItem(slide, first, last, label));
    }

    int removeItem(int slide, int place) {
        return call(d -> d.removeItem(slide, place));
    }

    int link(int slide, int key, int target) {
        return call(d -> d.link(slide, key, target));
    }

    int unlink(int slide, int key) {
        return call(d -> d.unlink(slide, key));
    }

    int note(int second, int number) {
        return call(d -> d.note(second, number));
    }

    int setEnd(int seconds) {
        return call(d -> d.setEnd(seconds));
    }

    int start() {
        return call(d -> d.start());
    }

    int stop() {
        return call(d -> d.stop());
    }

    int forward() {
        return call(d -> d.forward());
    }

    int back() {
        return call(d -> d.back());
    }

    int press(int key) {
        return call(d -> d.press(key));
    }

    int tick(int seconds) {
        return call(d -> d.tick(seconds));
    }

    int append(int character) {
        return call(d -> d.append(character));
    }

    int clearText() {
        return call(d -> d.clearText());
    }

    int fault() {
        return call(d -> d.fault());
    }

    int run() {
        return call(d -> d.run());
    }

    int why(int what) {
        return call(d -> d.why(what));
    }

    int undo() {
        return call(d -> d.undo());
    }

    public int slides() {
        return call(d -> d.slides());
    }

    public int slideAt(int place) {
        return call(d -> d.slideAt(place));
    }

    public int slide(int slide, int what) {
        return call(d -> d.slide(slide, what));
    }

    public int item(int slide, int place, int what) {
        return call(d -> d.item(slide, place, what));
    }

    public int target(int slide, int key) {
        return call(d -> d.target(slide, key));
    }

    public int picture(int slide, int step) {
        return call(d -> d.picture(slide, step));
    }

    public int now(int what) {
        return call(d -> d.now(what));
    }

    public int trail(int ago, int what) {
        return call(d -> d.trail(ago, what));
    }

    public int labels() {
        return call(d -> d.labels());
    }

    public int noteNow() {
        return call(d -> d.noteNow());
    }

    public int end() {
        return call(d -> d.end());
    }

    public int movesLeft() {
        return call(d -> d.movesLeft());
    }

    public int fewest(int slide) {
        return call(d -> d.fewest(slide));
    }

    public int secondsLeft() {
        return call(d -> d.secondsLeft());
    }

    public int backTo() {
        return call(d -> d.backTo());
    }

    public float meanSteps() {
        return Float.intBitsToFloat(call(d -> Float.floatToRawIntBits(d.meanSteps())));
    }
}
