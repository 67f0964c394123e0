import java.util.ArrayDeque;
import java.util.ArrayList;
import java.util.HashMap;
import java.util.List;
import java.util.Map;
import java.util.TreeMap;
import java.util.function.ToIntFunction;

/**
 * The document once more, written another way: states are copied whole, and what would be is found by
 * making the moves on a copy, so that it agrees with RevealDeck by the document alone.
 */
final class Model implements Looks {
    record Item(int first, int last, int label) {
        boolean seen(int step) {
            return step >= first && (last == -1 || step <= last);
        }
    }

    record Position(int slide, int step, boolean marked) {
    }

    static final class Page {
        boolean hidden;
        int pause;
        List<Item> items = new ArrayList<>();
        Map<Integer, Integer> links = new TreeMap<>();

        Page copy() {
            Page page = new Page();
            page.hidden = hidden;
            page.pause = pause;
            page.items = new ArrayList<>(items);
            page.links = new TreeMap<>(links);
            return page;
        }

        /** The greatest step whose picture may differ from the one before, told by the items' edges. */
        int finalStep() {
            for (int step = 9; step > 0; step--) {
                for (Item item : items) {
                    if (item.seen(step) != item.seen(step - 1)) {
                        return step;
                    }
                }
            }
            return 0;
        }
    }

    static final class World {
        Map<Integer, Page> pages = new HashMap<>();
        List<Integer> order = new ArrayList<>();
        TreeMap<Integer, Integer> notes = new TreeMap<>();
        int end;
        Position at;
        int clock;
        int waited;
        List<Position> trail = new ArrayList<>();

        World copy() {
            World world = new World();
            pages.forEach((number, page) -> world.pages.put(number, page.copy()));
            world.order = new ArrayList<>(order);
            world.notes = new TreeMap<>(notes);
            world.end = end;
            world.at = at;
            world.clock = clock;
            world.waited = waited;
            world.trail = new ArrayList<>(trail);
            return world;
        }

        boolean over() {
            return end > 0 && clock >= end;
        }

        boolean stuck() {
            return at == null || over();
        }

        Position ahead() {
            if (at.step() < pages.get(at.slide()).finalStep()) {
                return new Position(at.slide(), at.step() + 1, at.marked());
            }
            for (int number : order.subList(order.indexOf(at.slide()) + 1, order.size())) {
                if (!pages.get(number).hidden) {
                    return new Position(number, 0, false);
                }
            }
            return null;
        }

        void go(Position next) {
            trail.add(at);
            if (trail.size() == 41) {
                trail.remove(0);
            }
            at = next;
            waited = 0;
        }

        int forward() {
            if (stuck() || ahead() == null) {
                return RevealDeck.NOT_POSSIBLE;
            }
            go(ahead());
            return at.step();
        }

        int press(int key) {
            if (key < 0 || key > 9) {
                return RevealDeck.BAD_VALUE;
            }
            if (stuck() || !pages.get(at.slide()).links.containsKey(key)) {
                return RevealDeck.NOT_POSSIBLE;
            }
            go(new Position(pages.get(at.slide()).links.get(key), 0, true));
            return at.slide();
        }

        int back() {
            if (stuck()) {
                return RevealDeck.NOT_POSSIBLE;
            }
            List<Position> left = new ArrayList<>(trail);
            while (!left.isEmpty()) {
                Position p = left.remove(left.size() - 1);
                Page page = pages.get(p.slide());
                if (page != null && (p.marked() || !page.hidden)) {
                    trail = left;
                    at = new Position(p.slide(), Math.min(p.step(), page.finalStep()), p.marked());
                    waited = 0;
                    return at.step();
                }
            }
            return RevealDeck.NOT_POSSIBLE;
        }

        int tick(int seconds) {
            if (seconds < 1 || seconds > 99) {
                return RevealDeck.BAD_VALUE;
            }
            if (stuck()) {
                return RevealDeck.NOT_POSSIBLE;
            }
            int moves = 0;
            for (int i = 0; i < seconds && !over(); i++) {
                clock++;
                waited++;
                int pause = pages.get(at.slide()).pause;
                if (!over() && pause > 0 && waited >= pause && forward() >= 0) {
                    moves++;
                }
            }
            return moves;
        }
    }

    World world = new World();
    final List<World> history = new ArrayList<>();
    String text = "";
    int[] report;

    /** Carries an action out on a copy; keeps the copy if the answer is no error code. */
    int act(ToIntFunction<World> action) {
        World after = world.copy();
        int answer = action.applyAsInt(after);
        if (answer >= 0) {
            history.add(world);
            if (history.size() > 4) {
                history.remove(0);
            }
            world = after;
        }
        return answer;
    }

    private static boolean out(int value, int least, int most) {
        return value < least || value > most;
    }

    int addSlide() {
        return act(w -> {
            for (int i = 0; i < 10; i++) {
                if (!w.pages.containsKey(i)) {
                    w.pages.put(i, new Page());
                    w.order.add(i);
                    return i;
                }
            }
            return RevealDeck.TOO_MANY;
        });
    }

    int removeSlide(int slide) {
        return act(w -> {
            if (!w.pages.containsKey(slide)) {
                return RevealDeck.NO_SUCH;
            }
            if (w.at != null && w.at.slide() == slide) {
                return RevealDeck.NOT_POSSIBLE;
            }
            w.pages.remove(slide);
            w.order.remove(Integer.valueOf(slide));
            for (Page page : w.pages.values()) {
                page.links.values().removeIf(target -> target == slide);
            }
            return w.order.size();
        });
    }

    int moveSlide(int slide, int place) {
        return act(w -> {
            if (!w.pages.containsKey(slide)) {
                return RevealDeck.NO_SUCH;
            }
            if (out(place, 0, w.order.size() - 1)) {
                return RevealDeck.BAD_VALUE;
            }
            int previous = w.order.indexOf(slide);
            w.order.remove(previous);
            w.order.add(place, slide);
            return previous;
        });
    }

    int hide(int slide, boolean hidden) {
        return act(w -> {
            if (!w.pages.containsKey(slide)) {
                return RevealDeck.NO_SUCH;
            }
            w.pages.get(slide).hidden = hidden;
            return (int) w.pages.values().stream().filter(page -> page.hidden).count();
        });
    }

    int setPause(int slide, int seconds) {
        return act(w -> {
            if (!w.pages.containsKey(slide)) {
                return RevealDeck.NO_SUCH;
            }
            if (out(seconds, 0, 60)) {
                return RevealDeck.BAD_VALUE;
            }
            int previous = w.pages.get(slide).pause;
            w.pages.get(slide).pause = seconds;
            return previous;
        });
    }

    int addItem(int slide, int first, int last, int label) {
        return act(w -> {
            if (!w.pages.containsKey(slide)) {
                return RevealDeck.NO_SUCH;
            }
            if (out(first, 0, 9) || (last != -1 && out(last, first, 9)) || out(label, 0, 99)) {
                return RevealDeck.BAD_VALUE;
            }
            List<Item> items = w.pages.get(slide).items;
            if (items.size() == 6) {
                return RevealDeck.TOO_MANY;
            }
            items.add(new Item(first, last, label));
            return items.size() - 1;
        });
    }

    int removeItem(int slide, int place) {
        return act(w -> {
            if (!w.pages.containsKey(slide) || out(place, 0, w.pages.get(slide).items.size() - 1)) {
                return RevealDeck.NO_SUCH;
            }
            Page page = w.pages.get(slide);
            page.items.remove(place);
            if (w.at != null && w.at.slide() == slide && w.at.step() > page.finalStep()) {
                w.at = new Position(slide, page.finalStep(), w.at.marked());
            }
            return page.items.size();
        });
    }

    int link(int slide, int key, int target) {
        return act(w -> {
            if (!w.pages.containsKey(slide) || !w.pages.containsKey(target)) {
                return RevealDeck.NO_SUCH;
            }
            if (out(key, 0, 9)) {
                return RevealDeck.BAD_VALUE;
            }
            Map<Integer, Integer> links = w.pages.get(slide).links;
            links.put(key, target);
            return links.size() > 3 ? RevealDeck.TOO_MANY : links.size();
        });
    }

    int unlink(int slide, int key) {
        return act(w -> {
            if (!w.pages.containsKey(slide) || w.pages.get(slide).links.remove(key) == null) {
                return RevealDeck.NO_SUCH;
            }
            return w.pages.get(slide).links.size();
        });
    }

    int note(int second, int number) {
        return act(w -> {
            if (out(second, 0, 9999) || out(number, -1, 99)) {
                return RevealDeck.BAD_VALUE;
            }
            if (number == -1) {
                return w.notes.remove(second) == null ? RevealDeck.NO_SUCH : w.notes.size();
            }
            w.notes.put(second, number);
            return w.notes.size() > 8 ? RevealDeck.TOO_MANY : w.notes.size();
        });
    }

    int setEnd(int seconds) {
        return act(w -> {
            if (out(seconds, 0, 9999)) {
                return RevealDeck.BAD_VALUE;
            }
            int previous = w.end;
            w.end = seconds;
            return previous;
        });
    }

    int start() {
        return act(w -> {
            for (int number : w.order) {
                if (!w.pages.get(number).hidden) {
                    w.at = new Position(number, 0, false);
                    w.clock = 0;
                    w.waited = 0;
                    w.trail.clear();
                    return number;
                }
            }
            return RevealDeck.NOT_POSSIBLE;
        });
    }

    int stop() {
        return act(w -> {
            if (w.at == null) {
                return RevealDeck.NOT_POSSIBLE;
            }
            w.at = null;
            return w.clock;
        });
    }

    int append(int character) {
        if (out(character, 32, 126)) {
            return RevealDeck.BAD_VALUE;
        }
        if (text.length() == 60) {
            return RevealDeck.TOO_MANY;
        }
        text += (char) character;
        return text.length();
    }

    int clearText() {
        int length = text.length();
        text = "";
        return length;
    }

    private static final String MOVE = "(f|b|k[0-9]|t[1-9][0-9]?)";
    private static final String TEXT = MOVE + "(;" + MOVE + ")*";

    int fault() {
        return faultOf(text);
    }

    /** A beginning can be gone on with to a text if one of these few endings makes it one. */
    static int faultOf(String text) {
        if (text.matches(TEXT)) {
            return RevealDeck.NONE;
        }
        for (int length = 1; length <= text.length(); length++) {
            String beginning = text.substring(0, length);
            if (!beginning.matches(TEXT) && !(beginning + "f").matches(TEXT) && !(beginning + "1").matches(TEXT)) {
                return length - 1;
            }
        }
        return text.length();
    }

    int run() {
        if (fault() != RevealDeck.NONE) {
            return RevealDeck.BAD_TEXT;
        }
        return act(w -> {
            String[] moves = text.split(";");
            int index = 0;
            report = null;
            for (int i = 0; i < moves.length; i++) {
                if (make(w, moves[i]) < 0) {
                    boolean on = w.at != null;
                    report = new int[] {i, index, on ? w.at.slide() : RevealDeck.NONE, on ? w.at.step() : RevealDeck.NONE};
                    return i;
                }
                index += moves[i].length() + 1;
            }
            return moves.length;
        });
    }

    private static int make(World w, String move) {
        int number = move.length() == 1 ? 0 : Integer.parseInt(move.substring(1));
        return switch (move.charAt(0)) {
            case 'f' -> w.forward();
            case 'b' -> w.back();
            case 'k' -> w.press(number);
            default -> w.tick(number);
        };
    }

    int why(int what) {
        return out(what, 0, 3) ? RevealDeck.BAD_VALUE : report == null ? RevealDeck.NONE : report[what];
    }

    int undo() {
        if (history.isEmpty()) {
            return RevealDeck.NONE;
        }
        world = history.remove(history.size() - 1);
        return history.size();
    }

    public int slides() {
        return world.order.size();
    }

    public int end() {
        return world.end;
    }

    public int slideAt(int place) {
        return place < 0 ? RevealDeck.BAD_VALUE : place < world.order.size() ? world.order.get(place) : RevealDeck.NONE;
    }

    public int slide(int slide, int what) {
        Page page = world.pages.get(slide);
        if (page == null) {
            return RevealDeck.NO_SUCH;
        }
        int[] answers = {world.order.indexOf(slide), page.hidden ? 1 : 0, page.pause, page.items.size(), page.finalStep(), page.links.size()};
        return out(what, 0, 5) ? RevealDeck.BAD_VALUE : answers[what];
    }

    public int item(int slide, int place, int what) {
        Page page = world.pages.get(slide);
        if (page == null || out(place, 0, page.items.size() - 1)) {
            return RevealDeck.NO_SUCH;
        }
        Item item = page.items.get(place);
        int[] answers = {item.first(), item.last() == -1 ? RevealDeck.NONE : item.last(), item.label()};
        return out(what, 0, 2) ? RevealDeck.BAD_VALUE : answers[what];
    }

    public int target(int slide, int key) {
        Page page = world.pages.get(slide);
        if (page == null) {
            return RevealDeck.NO_SUCH;
        }
        return out(key, 0, 9) ? RevealDeck.BAD_VALUE : page.links.getOrDefault(key, RevealDeck.NONE);
    }

    public int picture(int slide, int step) {
        Page page = world.pages.get(slide);
        if (page == null) {
            return RevealDeck.NO_SUCH;
        }
        if (out(step, 0, 9)) {
            return RevealDeck.BAD_VALUE;
        }
        int mask = 0;
        for (int k = page.items.size() - 1; k >= 0; k--) {
            mask = mask * 2 + (page.items.get(k).seen(step) ? 1 : 0);
        }
        return mask;
    }

    public int now(int what) {
        if (out(what, 0, 6)) {
            return RevealDeck.BAD_VALUE;
        }
        World w = world;
        if (w.at == null) {
            return RevealDeck.NONE;
        }
        int[] answers = {w.at.slide(), w.at.step(), w.clock, w.waited, w.trail.size(), w.over() ? 1 : 0, w.at.marked() ? 1 : 0};
        return answers[what];
    }

    public int trail(int ago, int what) {
        if (ago < 0 || out(what, 0, 2)) {
            return RevealDeck.BAD_VALUE;
        }
        if (world.at == null || ago >= world.trail.size()) {
            return RevealDeck.NONE;
        }
        Position p = world.trail.get(world.trail.size() - 1 - ago);
        return what == 0 ? p.slide() : what == 1 ? p.step() : p.marked() ? 1 : 0;
    }

    public int labels() {
        if (world.at == null) {
            return RevealDeck.NONE;
        }
        List<Item> items = world.pages.get(world.at.slide()).items;
        return items.stream().filter(item -> item.seen(world.at.step())).mapToInt(Item::label).sum();
    }

    public int noteNow() {
        Map.Entry<Integer, Integer> note = world.at == null ? null : world.notes.floorEntry(world.clock);
        return note == null ? RevealDeck.NONE : note.getValue();
    }

    public float meanSteps() {
        int sum = world.pages.values().stream().mapToInt(page -> page.finalStep() + 1).sum();
        return world.pages.isEmpty() ? 0.0f : (float) sum / (float) world.pages.size();
    }

    private World endless() {
        World w = world.copy();
        w.end = 0;
        return w;
    }

    public int movesLeft() {
        if (world.at == null) {
            return RevealDeck.NONE;
        }
        World w = endless();
        int moves = 0;
        while (w.forward() >= 0) {
            moves++;
        }
        return moves;
    }

    /** A search over all positions, by all their moves. */
    public int fewest(int slide) {
        if (!world.pages.containsKey(slide)) {
            return RevealDeck.NO_SUCH;
        }
        if (world.at == null) {
            return RevealDeck.NONE;
        }
        Map<Position, Integer> moves = new HashMap<>();
        ArrayDeque<Position> open = new ArrayDeque<>();
        moves.put(world.at, 0);
        open.add(world.at);
        while (!open.isEmpty()) {
            Position from = open.remove();
            if (from.slide() == slide) {
                return moves.get(from);
            }
            for (int key = -1; key <= 9; key++) {
                World w = endless();
                w.at = from;
                int answer = key == -1 ? w.forward() : w.press(key);
                if (answer >= 0 && moves.putIfAbsent(w.at, moves.get(from) + 1) == null) {
                    open.add(w.at);
                }
            }
        }
        return RevealDeck.NONE;
    }

    public int secondsLeft() {
        if (world.at == null) {
            return RevealDeck.NONE;
        }
        World w = endless();
        int seconds = 0;
        while (w.ahead() != null) {
            if (w.pages.get(w.at.slide()).pause == 0) {
                return RevealDeck.NONE;
            }
            w.tick(1);
            seconds++;
        }
        return seconds;
    }

    public int backTo() {
        World w = world.copy();
        return w.back() < 0 ? RevealDeck.NONE : w.at.slide();
    }
}
