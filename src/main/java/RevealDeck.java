/**
 * A deck of slides whose items are revealed and vanish step by step, and a presentation of it.
 *
 * The class keeps one state, the states before the latest actions, the text and the report of run.
 * All rows are made by the constructor and used again: no call makes an object.
 */
public final class RevealDeck {
    public static final int NO_SUCH = -1;
    public static final int BAD_VALUE = -2;
    public static final int BAD_TEXT = -3;
    public static final int TOO_MANY = -4;
    public static final int NOT_POSSIBLE = -5;
    public static final int NONE = -6;

    private static final int MAX_SLIDES = 10;
    private static final int MAX_PAUSE = 60;
    private static final int MAX_ITEMS = 6;
    private static final int MAX_STEP = 9;
    private static final int MAX_LABEL = 99;
    private static final int MAX_LINKS = 3;
    private static final int KEYS = 10;
    private static final int MAX_NOTES = 8;
    private static final int MAX_SECOND = 9999;
    private static final int MAX_NOTE_NUMBER = 99;
    private static final int MAX_TICK = 99;
    private static final int MAX_TRAIL = 40;
    private static final int MAX_TEXT = 60;
    private static final int MAX_HISTORY = 4;

    /** Stands where a number of a slide, a place or a last step could stand, but there is none. */
    private static final int NOWHERE = -1;

    private final State state;
    private final History history;
    private final Script script;
    private final Report report;
    private final Forecast forecast;

    public RevealDeck() {
        state = new State();
        history = new History();
        script = new Script();
        report = new Report();
        forecast = new Forecast();
    }

    // ---- deck

    public int addSlide() {
        int number = state.deck.lowestFree();
        if (number == NOWHERE) {
            return TOO_MANY;
        }
        history.keep(state);
        state.deck.putSlide(number);
        return number;
    }

    public int removeSlide(int slide) {
        if (state.deck.find(slide) == null) {
            return NO_SUCH;
        }
        if (state.show.number == slide) {
            return NOT_POSSIBLE;
        }
        history.keep(state);
        state.deck.dropSlide(slide);
        return state.deck.count;
    }

    public int moveSlide(int slide, int place) {
        if (state.deck.find(slide) == null) {
            return NO_SUCH;
        }
        if (!isWithin(place, 0, state.deck.count - 1)) {
            return BAD_VALUE;
        }
        history.keep(state);
        int previous = state.deck.placeOf(slide);
        state.deck.dropFromOrder(slide);
        state.deck.putInOrder(slide, place);
        return previous;
    }

    public int hide(int slide, boolean isHidden) {
        Slide row = state.deck.find(slide);
        if (row == null) {
            return NO_SUCH;
        }
        history.keep(state);
        row.isHidden = isHidden;
        return state.deck.countHidden();
    }

    public int setPause(int slide, int seconds) {
        Slide row = state.deck.find(slide);
        if (row == null) {
            return NO_SUCH;
        }
        if (!isWithin(seconds, 0, MAX_PAUSE)) {
            return BAD_VALUE;
        }
        history.keep(state);
        int previous = row.pause;
        row.pause = seconds;
        return previous;
    }

    public int addItem(int slide, int first, int last, int label) {
        Slide row = state.deck.find(slide);
        if (row == null) {
            return NO_SUCH;
        }
        if (!isWithin(first, 0, MAX_STEP) || !isWithin(label, 0, MAX_LABEL)) {
            return BAD_VALUE;
        }
        if (last != NOWHERE && !isWithin(last, first, MAX_STEP)) {
            return BAD_VALUE;
        }
        if (row.itemCount >= MAX_ITEMS) {
            return TOO_MANY;
        }
        history.keep(state);
        row.putItem(first, last, label);
        return row.itemCount - 1;
    }

    public int removeItem(int slide, int place) {
        Slide row = state.deck.find(slide);
        if (row == null || !isWithin(place, 0, row.itemCount - 1)) {
            return NO_SUCH;
        }
        history.keep(state);
        row.dropItem(place);
        state.clampStep();
        return row.itemCount;
    }

    public int link(int slide, int key, int target) {
        Slide row = state.deck.find(slide);
        if (row == null || state.deck.find(target) == null) {
            return NO_SUCH;
        }
        if (!isWithin(key, 0, KEYS - 1)) {
            return BAD_VALUE;
        }
        if (row.targetOf(key) == NOWHERE && row.countLinks() >= MAX_LINKS) {
            return TOO_MANY;
        }
        history.keep(state);
        row.setTarget(key, target);
        return row.countLinks();
    }

    public int unlink(int slide, int key) {
        Slide row = state.deck.find(slide);
        if (row == null || row.targetOf(key) == NOWHERE) {
            return NO_SUCH;
        }
        history.keep(state);
        row.setTarget(key, NOWHERE);
        return row.countLinks();
    }

    public int note(int second, int number) {
        if (!isWithin(second, 0, MAX_SECOND) || !isWithin(number, NOWHERE, MAX_NOTE_NUMBER)) {
            return BAD_VALUE;
        }
        int place = state.notes.placeOf(second);
        if (number == NOWHERE && place == NOWHERE) {
            return NO_SUCH;
        }
        if (place == NOWHERE && state.notes.count >= MAX_NOTES) {
            return TOO_MANY;
        }
        history.keep(state);
        if (number == NOWHERE) {
            state.notes.dropAt(place);
        } else {
            state.notes.putAt(place, second, number);
        }
        return state.notes.count;
    }

    public int setEnd(int seconds) {
        if (!isWithin(seconds, 0, MAX_SECOND)) {
            return BAD_VALUE;
        }
        history.keep(state);
        int previous = state.endSecond;
        state.endSecond = seconds;
        return previous;
    }

    // ---- presentation

    public int start() {
        int first = state.deck.nextShown(NOWHERE);
        if (first == NOWHERE) {
            return NOT_POSSIBLE;
        }
        history.keep(state);
        state.show.begin(first);
        return first;
    }

    public int stop() {
        if (state.here() == null) {
            return NOT_POSSIBLE;
        }
        history.keep(state);
        int clock = state.show.clock;
        state.show.clear();
        return clock;
    }

    public int forward() {
        if (!state.canMake('f', 0)) {
            return NOT_POSSIBLE;
        }
        history.keep(state);
        state.make('f', 0);
        return state.show.step;
    }

    public int back() {
        if (!state.canMake('b', 0)) {
            return NOT_POSSIBLE;
        }
        history.keep(state);
        state.make('b', 0);
        return state.show.step;
    }

    public int press(int key) {
        if (!isWithin(key, 0, KEYS - 1)) {
            return BAD_VALUE;
        }
        if (!state.canMake('k', key)) {
            return NOT_POSSIBLE;
        }
        history.keep(state);
        state.make('k', key);
        return state.show.number;
    }

    public int tick(int seconds) {
        if (!isWithin(seconds, 1, MAX_TICK)) {
            return BAD_VALUE;
        }
        if (!state.canMake('t', seconds)) {
            return NOT_POSSIBLE;
        }
        history.keep(state);
        return state.passSeconds(seconds);
    }

    // ---- text, report and history

    public int append(int character) {
        if (!isWithin(character, ' ', '~')) {
            return BAD_VALUE;
        }
        if (script.length >= MAX_TEXT) {
            return TOO_MANY;
        }
        script.addSign((char) character);
        return script.length;
    }

    public int clearText() {
        int previous = script.length;
        script.length = 0;
        return previous;
    }

    public int fault() {
        return script.findFault();
    }

    public int run() {
        if (script.findFault() != NONE) {
            return BAD_TEXT;
        }
        history.keep(state);
        report.clear();
        int made = 0;
        for (int i = 0; i < script.length; i++) {
            char sign = script.signAt(i);
            if (!Script.isMove(sign)) {
                continue;
            }
            int number = script.numberBehind(i);
            if (!state.canMake(sign, number)) {
                report.tell(made, i, state.show);
                return made;
            }
            state.make(sign, number);
            made++;
        }
        return made;
    }

    public int why(int what) {
        switch (what) {
            case 0:
                return report.move;
            case 1:
                return report.character;
            case 2:
                return report.number;
            case 3:
                return report.step;
            default:
                return BAD_VALUE;
        }
    }

    public int undo() {
        if (history.count == 0) {
            return NONE;
        }
        history.restore(state);
        return history.count;
    }

    // ---- what there is; these methods change nothing

    public int slides() {
        return state.deck.count;
    }

    public int slideAt(int place) {
        if (place < 0) {
            return BAD_VALUE;
        }
        int number = state.deck.numberAt(place);
        return number == NOWHERE ? NONE : number;
    }

    public int slide(int slide, int what) {
        Slide row = state.deck.find(slide);
        if (row == null) {
            return NO_SUCH;
        }
        switch (what) {
            case 0:
                return state.deck.placeOf(slide);
            case 1:
                return asNumber(row.isHidden);
            case 2:
                return row.pause;
            case 3:
                return row.itemCount;
            case 4:
                return row.finalStep();
            case 5:
                return row.countLinks();
            default:
                return BAD_VALUE;
        }
    }

    public int item(int slide, int place, int what) {
        Slide row = state.deck.find(slide);
        if (row == null || !isWithin(place, 0, row.itemCount - 1)) {
            return NO_SUCH;
        }
        switch (what) {
            case 0:
                return row.firsts[place];
            case 1:
                return row.lasts[place] == NOWHERE ? NONE : row.lasts[place];
            case 2:
                return row.tags[place];
            default:
                return BAD_VALUE;
        }
    }

    public int target(int slide, int key) {
        Slide row = state.deck.find(slide);
        if (row == null) {
            return NO_SUCH;
        }
        if (!isWithin(key, 0, KEYS - 1)) {
            return BAD_VALUE;
        }
        int number = row.targetOf(key);
        return number == NOWHERE ? NONE : number;
    }

    public int picture(int slide, int step) {
        Slide row = state.deck.find(slide);
        if (row == null) {
            return NO_SUCH;
        }
        return isWithin(step, 0, MAX_STEP) ? row.maskAt(step) : BAD_VALUE;
    }

    public int now(int what) {
        if (!isWithin(what, 0, 6)) {
            return BAD_VALUE;
        }
        if (state.here() == null) {
            return NONE;
        }
        switch (what) {
            case 0:
                return state.show.number;
            case 1:
                return state.show.step;
            case 2:
                return state.show.clock;
            case 3:
                return state.show.waited;
            case 4:
                return state.show.trailCount;
            case 5:
                return asNumber(state.isOver());
            default:
                return state.show.mark;
        }
    }

    public int trail(int ago, int what) {
        if (ago < 0 || !isWithin(what, 0, 2)) {
            return BAD_VALUE;
        }
        if (state.here() == null || ago >= state.show.trailCount) {
            return NONE;
        }
        return state.show.trailValue(state.show.trailCount - 1 - ago, what);
    }

    public int labels() {
        Slide here = state.here();
        return here == null ? NONE : here.sumTagsAt(state.show.step);
    }

    public int noteNow() {
        return state.here() == null ? NONE : state.notes.latestAt(state.show.clock);
    }

    public int end() {
        return state.endSecond;
    }

    public float meanSteps() {
        int count = state.deck.count;
        return count <= 0 ? 0.0f : (float) state.deck.sumSteps() / (float) count;
    }

    // ---- what would be; these methods change nothing

    public int movesLeft() {
        return forecast.countMoves(state);
    }

    public int fewest(int slide) {
        return state.deck.find(slide) == null ? NO_SUCH : forecast.leastMoves(state, slide);
    }

    public int secondsLeft() {
        return forecast.countSeconds(state);
    }

    public int backTo() {
        return state.canMake('b', 0) ? state.show.trailValue(state.backPlace(), 0) : NONE;
    }

    private static boolean isWithin(int value, int least, int most) {
        return value >= least && value <= most;
    }

    private static int asNumber(boolean isTrue) {
        return isTrue ? 1 : 0;
    }

    /** A slide, or the room for one that does not exist. */
    private static final class Slide {
        boolean isThere;
        boolean isHidden;
        int pause;
        int itemCount;
        final int[] firsts = new int[MAX_ITEMS];
        final int[] lasts = new int[MAX_ITEMS];
        final int[] tags = new int[MAX_ITEMS];
        final int[] targets = new int[KEYS];

        void clear() {
            isThere = false;
            isHidden = false;
            pause = 0;
            itemCount = 0;
            for (int key = 0; key < targets.length; key++) {
                targets[key] = NOWHERE;
            }
        }

        void copyFrom(Slide other) {
            isThere = other.isThere;
            isHidden = other.isHidden;
            pause = other.pause;
            itemCount = other.itemCount;
            System.arraycopy(other.firsts, 0, firsts, 0, MAX_ITEMS);
            System.arraycopy(other.lasts, 0, lasts, 0, MAX_ITEMS);
            System.arraycopy(other.tags, 0, tags, 0, MAX_ITEMS);
            System.arraycopy(other.targets, 0, targets, 0, KEYS);
        }

        void putItem(int first, int last, int tag) {
            if (itemCount >= MAX_ITEMS) {
                return;
            }
            firsts[itemCount] = first;
            lasts[itemCount] = last;
            tags[itemCount] = tag;
            itemCount++;
        }

        void dropItem(int place) {
            if (!isWithin(place, 0, itemCount - 1)) {
                return;
            }
            itemCount--;
            for (int i = place; i < itemCount; i++) {
                firsts[i] = firsts[i + 1];
                lasts[i] = lasts[i + 1];
                tags[i] = tags[i + 1];
            }
        }

        int targetOf(int key) {
            return isWithin(key, 0, KEYS - 1) ? targets[key] : NOWHERE;
        }

        void setTarget(int key, int target) {
            if (isWithin(key, 0, KEYS - 1)) {
                targets[key] = target;
            }
        }

        void dropLinksTo(int target) {
            for (int key = 0; key < targets.length; key++) {
                if (targets[key] == target) {
                    targets[key] = NOWHERE;
                }
            }
        }

        int countLinks() {
            int links = 0;
            for (int target : targets) {
                if (target != NOWHERE) {
                    links++;
                }
            }
            return links;
        }

        int finalStep() {
            int greatest = 0;
            for (int i = 0; i < itemCount; i++) {
                greatest = Math.max(greatest, firsts[i]);
                if (lasts[i] != NOWHERE && lasts[i] < MAX_STEP) {
                    greatest = Math.max(greatest, lasts[i] + 1);
                }
            }
            return greatest;
        }

        boolean isSeen(int place, int step) {
            return firsts[place] <= step && (lasts[place] == NOWHERE || step <= lasts[place]);
        }

        int maskAt(int step) {
            int mask = 0;
            for (int i = 0; i < itemCount; i++) {
                if (isSeen(i, step)) {
                    mask |= 1 << i;
                }
            }
            return mask;
        }

        int sumTagsAt(int step) {
            int sum = 0;
            for (int i = 0; i < itemCount; i++) {
                if (isSeen(i, step)) {
                    sum += tags[i];
                }
            }
            return sum;
        }
    }

    /** The slides by their numbers, and their order. */
    private static final class Deck {
        int count;
        final int[] order = new int[MAX_SLIDES];
        final Slide[] rows = new Slide[MAX_SLIDES];

        Deck() {
            for (int i = 0; i < rows.length; i++) {
                Slide row = new Slide();
                row.clear();
                rows[i] = row;
            }
        }

        void copyFrom(Deck other) {
            count = other.count;
            System.arraycopy(other.order, 0, order, 0, MAX_SLIDES);
            for (int i = 0; i < MAX_SLIDES; i++) {
                rows[i].copyFrom(other.rows[i]);
            }
        }

        /** The slide with this number, null if there is none. */
        Slide find(int number) {
            if (number < 0 || number >= MAX_SLIDES) {
                return null;
            }
            Slide row = rows[number];
            return row.isThere ? row : null;
        }

        int lowestFree() {
            for (int i = 0; i < MAX_SLIDES; i++) {
                if (!rows[i].isThere) {
                    return i;
                }
            }
            return NOWHERE;
        }

        void putSlide(int number) {
            if (isWithin(number, 0, MAX_SLIDES - 1)) {
                rows[number].isThere = true;
                putInOrder(number, count);
            }
        }

        void dropSlide(int number) {
            Slide row = find(number);
            if (row == null) {
                return;
            }
            row.clear();
            dropFromOrder(number);
            for (Slide other : rows) {
                other.dropLinksTo(number);
            }
        }

        void putInOrder(int number, int place) {
            if (count >= MAX_SLIDES || !isWithin(place, 0, count)) {
                return;
            }
            for (int i = count; i > place; i--) {
                order[i] = order[i - 1];
            }
            order[place] = number;
            count++;
        }

        void dropFromOrder(int number) {
            int place = placeOf(number);
            if (place == NOWHERE) {
                return;
            }
            count--;
            for (int i = place; i < count; i++) {
                order[i] = order[i + 1];
            }
        }

        int placeOf(int number) {
            for (int i = 0; i < count; i++) {
                if (order[i] == number) {
                    return i;
                }
            }
            return NOWHERE;
        }

        /** The number of the slide at this place, NOWHERE if there is none. */
        int numberAt(int place) {
            return place >= 0 && place < count ? order[place] : NOWHERE;
        }

        /** The number of the first slide behind this place that is not hidden, NOWHERE if there is none. */
        int nextShown(int place) {
            for (int i = place + 1; i < count; i++) {
                int number = numberAt(i);
                Slide row = find(number);
                if (row != null && !row.isHidden) {
                    return number;
                }
            }
            return NOWHERE;
        }

        int countHidden() {
            int hidden = 0;
            for (Slide row : rows) {
                if (row.isHidden) {
                    hidden++;
                }
            }
            return hidden;
        }

        /** The sum of the final steps of all slides, each plus 1. */
        int sumSteps() {
            int sum = 0;
            for (Slide row : rows) {
                if (row.isThere) {
                    sum += row.finalStep() + 1;
                }
            }
            return sum;
        }
    }

    /** The notes; their places mean nothing. */
    private static final class Notes {
        int count;
        final int[] seconds = new int[MAX_NOTES];
        final int[] numbers = new int[MAX_NOTES];

        void copyFrom(Notes other) {
            count = other.count;
            System.arraycopy(other.seconds, 0, seconds, 0, MAX_NOTES);
            System.arraycopy(other.numbers, 0, numbers, 0, MAX_NOTES);
        }

        int placeOf(int second) {
            for (int i = 0; i < count; i++) {
                if (seconds[i] == second) {
                    return i;
                }
            }
            return NOWHERE;
        }

        /** Changes the note at a place; a new one, if the place is NOWHERE. */
        void putAt(int place, int second, int number) {
            int slot = place == NOWHERE ? count : place;
            if (!isWithin(slot, 0, MAX_NOTES - 1)) {
                return;
            }
            seconds[slot] = second;
            numbers[slot] = number;
            if (slot == count) {
                count++;
            }
        }

        void dropAt(int place) {
            if (!isWithin(place, 0, count - 1)) {
                return;
            }
            count--;
            seconds[place] = seconds[count];
            numbers[place] = numbers[count];
        }

        /** The number of the note with the greatest second that is at most the clock, NONE if there is none. */
        int latestAt(int clock) {
            int latest = NOWHERE;
            int number = NONE;
            for (int i = 0; i < count; i++) {
                if (seconds[i] <= clock && seconds[i] > latest) {
                    latest = seconds[i];
                    number = numbers[i];
                }
            }
            return number;
        }
    }

    /** The presentation: its number is NOWHERE if there is none. */
    private static final class Show {
        int number = NOWHERE;
        int step;
        int mark;
        int clock;
        int waited;
        int trailCount;
        final int[] trailNumbers = new int[MAX_TRAIL];
        final int[] trailSteps = new int[MAX_TRAIL];
        final int[] trailMarks = new int[MAX_TRAIL];

        void copyFrom(Show other) {
            number = other.number;
            step = other.step;
            mark = other.mark;
            clock = other.clock;
            waited = other.waited;
            trailCount = other.trailCount;
            System.arraycopy(other.trailNumbers, 0, trailNumbers, 0, MAX_TRAIL);
            System.arraycopy(other.trailSteps, 0, trailSteps, 0, MAX_TRAIL);
            System.arraycopy(other.trailMarks, 0, trailMarks, 0, MAX_TRAIL);
        }

        void begin(int first) {
            clear();
            number = first;
        }

        void clear() {
            number = NOWHERE;
            step = 0;
            mark = 0;
            clock = 0;
            waited = 0;
            trailCount = 0;
        }

        void moveTo(int newNumber, int newStep, int newMark) {
            if (trailCount >= MAX_TRAIL) {
                dropOldest();
            }
            trailNumbers[trailCount] = number;
            trailSteps[trailCount] = step;
            trailMarks[trailCount] = mark;
            trailCount++;
            number = newNumber;
            step = newStep;
            mark = newMark;
            waited = 0;
        }

        void dropOldest() {
            trailCount = MAX_TRAIL - 1;
            for (int i = 0; i < trailCount; i++) {
                trailNumbers[i] = trailNumbers[i + 1];
                trailSteps[i] = trailSteps[i + 1];
                trailMarks[i] = trailMarks[i + 1];
            }
        }

        void returnTo(int place) {
            if (!isWithin(place, 0, trailCount - 1)) {
                return;
            }
            number = trailNumbers[place];
            step = trailSteps[place];
            mark = trailMarks[place];
            waited = 0;
            trailCount = place;
        }

        /** Of the position at this place of the trail: its slide, its step or its mark, as what is 0, 1 or 2. */
        int trailValue(int place, int what) {
            if (!isWithin(place, 0, trailCount - 1)) {
                return NONE;
            }
            switch (what) {
                case 0:
                    return trailNumbers[place];
                case 1:
                    return trailSteps[place];
                default:
                    return trailMarks[place];
            }
        }
    }

    /** All that undo restores, and the moves, which are named by their letters in the text. */
    private static final class State {
        int endSecond;
        final Deck deck = new Deck();
        final Notes notes = new Notes();
        final Show show = new Show();

        void copyFrom(State other) {
            endSecond = other.endSecond;
            deck.copyFrom(other.deck);
            notes.copyFrom(other.notes);
            show.copyFrom(other.show);
        }

        /** The slide of the position, null if there is no presentation. */
        Slide here() {
            return deck.find(show.number);
        }

        boolean isOver() {
            return endSecond > 0 && show.clock >= endSecond;
        }

        boolean canMake(char letter, int number) {
            Slide here = here();
            if (here == null || isOver()) {
                return false;
            }
            switch (letter) {
                case 'f':
                    return nextNumber() != NOWHERE;
                case 'b':
                    return backPlace() != NOWHERE;
                case 'k':
                    return here.targetOf(number) != NOWHERE;
                default:
                    return true;
            }
        }

        /** Makes a move that canMake allows. */
        void make(char letter, int number) {
            switch (letter) {
                case 'f':
                    goForward();
                    break;
                case 'b':
                    goBack();
                    break;
                case 'k':
                    goByKey(number);
                    break;
                default:
                    passSeconds(number);
                    break;
            }
        }

        /** The slide to which the move forward leads, NOWHERE if it is not possible. */
        int nextNumber() {
            Slide here = here();
            if (here == null) {
                return NOWHERE;
            }
            return show.step < here.finalStep() ? show.number : deck.nextShown(deck.placeOf(show.number));
        }

        void goForward() {
            Slide here = here();
            int next = nextNumber();
            if (here == null || next == NOWHERE) {
                return;
            }
            if (show.step < here.finalStep()) {
                show.moveTo(next, show.step + 1, show.mark);
            } else {
                show.moveTo(next, 0, 0);
            }
        }

        void goByKey(int key) {
            Slide here = here();
            if (here != null && here.targetOf(key) != NOWHERE) {
                show.moveTo(here.targetOf(key), 0, 1);
            }
        }

        /** The place in the trail of the position to which back leads, NOWHERE if it is not possible. */
        int backPlace() {
            for (int i = show.trailCount - 1; i >= 0; i--) {
                Slide row = deck.find(show.trailValue(i, 0));
                if (row != null && (show.trailValue(i, 2) == 1 || !row.isHidden)) {
                    return i;
                }
            }
            return NOWHERE;
        }

        void goBack() {
            show.returnTo(backPlace());
            clampStep();
        }

        /** Brings the step down to the final step of the slide, which may have lost items. */
        void clampStep() {
            Slide here = here();
            if (here != null) {
                show.step = Math.min(show.step, here.finalStep());
            }
        }

        /** Lets the clock go on until the presentation is over, and tells how many moves were made. */
        int passSeconds(int seconds) {
            int moves = 0;
            for (int i = 0; i < seconds && !isOver(); i++) {
                show.clock++;
                show.waited++;
                if (!isOver() && isPauseOver() && nextNumber() != NOWHERE) {
                    goForward();
                    moves++;
                }
            }
            return moves;
        }

        boolean isPauseOver() {
            Slide here = here();
            return here != null && here.pause > 0 && show.waited >= here.pause;
        }
    }

    /** The states before the latest actions, the oldest one first. */
    private static final class History {
        int count;
        final State[] states = new State[MAX_HISTORY];

        History() {
            for (int i = 0; i < states.length; i++) {
                states[i] = new State();
            }
        }

        void keep(State current) {
            if (count >= MAX_HISTORY) {
                dropOldest();
            }
            states[count].copyFrom(current);
            count++;
        }

        /** The row of the oldest state becomes the free row at the end. */
        void dropOldest() {
            State oldest = states[0];
            count = MAX_HISTORY - 1;
            for (int i = 0; i < count; i++) {
                states[i] = states[i + 1];
            }
            states[count] = oldest;
        }

        void restore(State current) {
            if (count > 0) {
                count--;
                current.copyFrom(states[count]);
            }
        }
    }

    /** The text. */
    private static final class Script {
        /** What may come next in a text. */
        static final int MOVE = 0;
        static final int KEY = 1;
        static final int FIRST_DIGIT = 2;
        static final int DIGIT_OR_END = 3;
        static final int MOVE_END = 4;
        static final int NOTHING = 5;

        int length;
        final char[] signs = new char[MAX_TEXT];

        void addSign(char sign) {
            if (length < MAX_TEXT) {
                signs[length] = sign;
                length++;
            }
        }

        char signAt(int index) {
            return isWithin(index, 0, length - 1) ? signs[index] : ' ';
        }

        int findFault() {
            int expected = MOVE;
            for (int i = 0; i < length; i++) {
                expected = expectedBehind(signAt(i), expected);
                if (expected == NOTHING) {
                    return i;
                }
            }
            return expected == DIGIT_OR_END || expected == MOVE_END ? NONE : length;
        }

        static int expectedBehind(char sign, int expected) {
            switch (expected) {
                case MOVE:
                    return expectedBehindLetter(sign);
                case KEY:
                    return isDigit(sign) ? MOVE_END : NOTHING;
                case FIRST_DIGIT:
                    return isDigit(sign) && sign != '0' ? DIGIT_OR_END : NOTHING;
                case DIGIT_OR_END:
                    return isDigit(sign) ? MOVE_END : expectedBehindMove(sign);
                default:
                    return expectedBehindMove(sign);
            }
        }

        static int expectedBehindLetter(char sign) {
            switch (sign) {
                case 'f':
                case 'b':
                    return MOVE_END;
                case 'k':
                    return KEY;
                case 't':
                    return FIRST_DIGIT;
                default:
                    return NOTHING;
            }
        }

        static int expectedBehindMove(char sign) {
            return sign == ';' ? MOVE : NOTHING;
        }

        static boolean isDigit(char sign) {
            return sign >= '0' && sign <= '9';
        }

        /** Whether a move begins with this character; in a text without a fault these letters stand nowhere else. */
        static boolean isMove(char sign) {
            return expectedBehindLetter(sign) != NOTHING;
        }

        /** The number that the digits behind an index make, 0 if there are none. */
        int numberBehind(int index) {
            int number = 0;
            for (int i = index + 1; i < length && isDigit(signAt(i)); i++) {
                number = number * 10 + (signAt(i) - '0');
            }
            return number;
        }
    }

    /** What the latest run without an error code tells; NONE in all of it if all moves were made. */
    private static final class Report {
        int move = NONE;
        int character = NONE;
        int number = NONE;
        int step = NONE;

        void clear() {
            move = NONE;
            character = NONE;
            number = NONE;
            step = NONE;
        }

        void tell(int newMove, int newCharacter, Show show) {
            boolean isOn = show.number != NOWHERE;
            move = newMove;
            character = newCharacter;
            number = isOn ? show.number : NONE;
            step = isOn ? show.step : NONE;
        }
    }

    /** What would be from the position of a state on; the state does not change. */
    private static final class Forecast {
        /** Above every number of moves that can be needed. */
        static final int UNREACHED = 1000000;

        /** By the number of a slide, the fewest moves known to lead to it; used again by each call. */
        final int[] reached = new int[MAX_SLIDES];

        int countMoves(State state) {
            if (state.here() == null) {
                return NONE;
            }
            int moves = 0;
            for (int place = state.deck.placeOf(state.show.number); place < state.deck.count; place++) {
                moves += movesOn(state, place);
            }
            return moves;
        }

        int countSeconds(State state) {
            if (state.here() == null) {
                return NONE;
            }
            int herePlace = state.deck.placeOf(state.show.number);
            int seconds = 0;
            for (int place = herePlace; place < state.deck.count; place++) {
                Slide row = state.deck.find(state.deck.numberAt(place));
                int moves = movesOn(state, place);
                if (row == null || moves == 0) {
                    continue;
                }
                if (row.pause == 0) {
                    return NONE;
                }
                seconds += moves * row.pause;
                if (place == herePlace) {
                    // the pause may have become shorter than waited: the move still takes a second
                    seconds += Math.max(1, row.pause - state.show.waited) - row.pause;
                }
            }
            return seconds;
        }

        /** How many moves forward begin on the slide at a place, if one after the other is made. */
        static int movesOn(State state, int place) {
            int number = state.deck.numberAt(place);
            Slide row = state.deck.find(number);
            boolean isHere = number == state.show.number;
            if (row == null || (row.isHidden && !isHere)) {
                return 0;
            }
            int steps = row.finalStep() - (isHere ? state.show.step : 0);
            return state.deck.nextShown(place) == NOWHERE ? steps : steps + 1;
        }

        int leastMoves(State state, int goal) {
            if (state.here() == null || !isWithin(goal, 0, MAX_SLIDES - 1)) {
                return NONE;
            }
            for (int i = 0; i < reached.length; i++) {
                reached[i] = UNREACHED;
            }
            lower(state.show.number, 0);
            // a way with the fewest moves enters each slide once at the most
            for (int round = 0; round < MAX_SLIDES; round++) {
                for (int place = 0; place < state.deck.count; place++) {
                    spreadFrom(state, place);
                }
            }
            return reached[goal] < UNREACHED ? reached[goal] : NONE;
        }

        void spreadFrom(State state, int place) {
            int number = state.deck.numberAt(place);
            Slide row = state.deck.find(number);
            if (row == null || reached[number] >= UNREACHED) {
                return;
            }
            for (int target : row.targets) {
                lower(target, reached[number] + 1);
            }
            int step = number == state.show.number ? state.show.step : 0;
            lower(state.deck.nextShown(place), reached[number] + row.finalStep() - step + 1);
        }

        /** Nothing is changed for NOWHERE. */
        void lower(int number, int moves) {
            if (isWithin(number, 0, MAX_SLIDES - 1) && moves < reached[number]) {
                reached[number] = moves;
            }
        }
    }
}
