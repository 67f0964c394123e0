import java.util.function.Supplier;

/** What the methods that change nothing tell; the object has them as the model has. */
interface Looks {
    int slides();

    int slideAt(int place);

    int slide(int slide, int what);

    int item(int slide, int place, int what);

    int target(int slide, int key);

    int picture(int slide, int step);

    int now(int what);

    int trail(int ago, int what);

    int labels();

    int noteNow();

    int end();

    int movesLeft();

    int fewest(int slide);

    int secondsLeft();

    int backTo();

    float meanSteps();

    /** All that they tell of the state, in lines; each line asks a fresh one, for a line may need some 120 calls. */
    static String stateOf(Supplier<? extends Looks> fresh) {
        StringBuilder told = new StringBuilder();
        told.append(presentationOf(fresh.get())).append('\n').append(trailOf(fresh.get()));
        for (int slide = 0; slide <= 9; slide++) {
            told.append('\n').append(slideOf(fresh.get(), slide));
        }
        return told.toString();
    }

    private static String presentationOf(Looks x) {
        StringBuilder told = new StringBuilder();
        told.append("slides ").append(x.slides()).append(" end ").append(x.end()).append(" mean ").append(x.meanSteps());
        told.append(" labels ").append(x.labels()).append(" note ").append(x.noteNow()).append(" moves left ").append(x.movesLeft());
        told.append(" seconds left ").append(x.secondsLeft()).append(" back to ").append(x.backTo()).append(" now");
        for (int what = 0; what <= 6; what++) {
            told.append(' ').append(x.now(what));
        }
        told.append(" order");
        for (int place = 0; place <= 10; place++) {
            told.append(' ').append(x.slideAt(place));
        }
        return told.toString();
    }

    private static String trailOf(Looks x) {
        StringBuilder told = new StringBuilder("trail");
        for (int ago = 0; ago <= 40; ago++) {
            told.append(' ').append(x.trail(ago, 0)).append('/').append(x.trail(ago, 1)).append('/').append(x.trail(ago, 2));
        }
        return told.toString();
    }

    private static String slideOf(Looks x, int slide) {
        StringBuilder told = new StringBuilder("slide ").append(slide).append(':');
        for (int what = 0; what <= 5; what++) {
            told.append(' ').append(x.slide(slide, what));
        }
        told.append(" fewest ").append(x.fewest(slide)).append(" items");
        for (int place = 0; place <= 6; place++) {
            told.append(' ').append(x.item(slide, place, 0)).append('/').append(x.item(slide, place, 1)).append('/').append(x.item(slide, place, 2));
        }
        told.append(" targets and pictures");
        for (int i = 0; i <= 9; i++) {
            told.append(' ').append(x.target(slide, i)).append('/').append(x.picture(slide, i));
        }
        return told.toString();
    }
}
