import java.util.function.IntSupplier;

/** Counts the answers of a test and prints those that are not the ones that are due. */
final class Check {
    private final String name;
    private int answers = 0;
    private int wrong = 0;

    Check(String name) {
        this.name = name;
    }

    void same(String call, long due, long got) {
        answers++;
        if (due != got) {
            wrong++;
            System.out.println(name + ": " + call + " answered " + got + ", due is " + due);
        }
    }

    /** The call answers this error code and changes nothing that can be seen. */
    void refused(RevealDeck x, String call, int code, IntSupplier made) {
        String before = stateOf(x);
        same(call, code, made.getAsInt());
        same(call + " leaves all as it was (1 for yes)", 1, before.equals(stateOf(x)) ? 1 : 0);
    }

    void sameFloat(String call, float due, float got) {
        same(call + " (bits)", Float.floatToIntBits(due), Float.floatToIntBits(got));
    }

    /** Ends the program with exit code 1 if an answer was wrong. */
    void end() {
        System.out.println(name + ": " + answers + " answers, " + wrong + " wrong");
        if (wrong != 0 || answers == 0) {
            System.exit(1);
        }
    }

    /** A new object with so many slides. */
    static RevealDeck deck(int slides) {
        RevealDeck x = new RevealDeck();
        for (int i = 0; i < slides; i++) {
            x.addSlide();
        }
        return x;
    }

    /** Puts this text in the place of the one that there was. */
    static void type(RevealDeck x, String text) {
        x.clearText();
        for (int i = 0; i < text.length(); i++) {
            x.append(text.charAt(i));
        }
    }

    /** How many states are in the history; takes them all away. */
    static int historySize(RevealDeck x) {
        int size = 0;
        while (x.undo() != RevealDeck.NONE) {
            size++;
        }
        return size;
    }

    /** All that the methods that change nothing tell of the state, but not the text, the report and the history. */
    static String stateOf(RevealDeck x) {
        StringBuilder told = new StringBuilder();
        told.append(x.slides()).append('/').append(x.end()).append('/').append(x.labels()).append('/').append(x.noteNow());
        told.append('/').append(x.meanSteps()).append('/').append(x.movesLeft()).append('/').append(x.secondsLeft());
        told.append('/').append(x.backTo()).append('\n');
        for (int what = 0; what <= 6; what++) {
            told.append(x.now(what)).append(' ');
        }
        for (int ago = 0; ago <= 41; ago++) {
            told.append(ago).append(':').append(x.trail(ago, 0)).append(' ').append(x.trail(ago, 1)).append(' ').append(x.trail(ago, 2)).append(' ');
        }
        for (int i = 0; i <= 10; i++) {
            told.append('\n').append(x.slideAt(i)).append(' ').append(x.fewest(i));
            for (int what = 0; what <= 5; what++) {
                told.append(' ').append(x.slide(i, what));
            }
            for (int k = 0; k <= 9; k++) {
                told.append(' ').append(x.target(i, k)).append(',').append(x.picture(i, k));
            }
            for (int place = 0; place <= 6; place++) {
                told.append(' ').append(x.item(i, place, 0)).append(',').append(x.item(i, place, 1)).append(',').append(x.item(i, place, 2));
            }
        }
        return told.toString();
    }
}
