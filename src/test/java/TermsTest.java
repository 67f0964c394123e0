import java.util.ArrayList;
import java.util.List;
import java.util.function.ToIntFunction;

/**
 * The sentences under "Terms" of the document that name a boundary, each with a test of its own, which quotes it:
 * deck, notes, text, actions and history. For the presentation see MovesTest, for the errors ErrorsTest.
 */
final class TermsTest {
    private final Check c = new Check("TermsTest");

    public static void main(String[] args) {
        TermsTest t = new TermsTest();
        t.atMostTenSlides();
        t.lowestNumber();
        t.newSlideAtTheEnd();
        t.notHiddenAtFirst();
        t.pause();
        t.atMostSixItems();
        t.placesMoveUp();
        t.itemRanges();
        t.seenFromFirstToLast();
        t.lastStepBelowFirst();
        t.finalStep();
        t.finalStepOfTwo();
        t.atMostThreeLinks();
        t.oneLinkForEachKey();
        t.linkToItself();
        t.atMostEightNotes();
        t.noteRanges();
        t.noteOfNow();
        t.endRange();
        t.atMostSixtyCharacters();
        t.shortTexts();
        t.oneMoreCharacter();
        t.longTexts();
        t.recordsEvenIfNothingChanges();
        t.undoOfFullRooms();
        t.atMostFourStates();
        t.movesOfRunRecordNothing();
        t.notPartOfTheState();
        t.lookingChangesNothing();
        t.c.end();
    }

    // ---- deck

    /** "There are at most 10 slides, with the numbers 0 to 9" */
    private void atMostTenSlides() {
        for (int gone = 0; gone <= 9; gone++) {
            Run x = new Run();
            for (int number = 0; number <= 9; number++) {
                c.same("slides: addSlide()", number, x.addSlide());
            }
            c.refused(x, "slides: the 11th", RevealDeck.TOO_MANY, RevealDeck::addSlide);
            c.same("slides: removeSlide(" + gone + ")", 9, x.removeSlide(gone));
            c.same("slides: room for one", gone, x.addSlide());
            c.refused(x, "slides: but for one only", RevealDeck.TOO_MANY, RevealDeck::addSlide);
        }
    }

    /** "a new slide gets the lowest number that no slide has": for all sets of numbers that slides have. */
    private void lowestNumber() {
        for (int gone = 1; gone < 1024; gone++) {
            Run x = Run.deck(10);
            for (int number = 0; number <= 9; number++) {
                if ((gone >> number & 1) == 1) {
                    x.removeSlide(number);
                }
            }
            for (int number = 0; number <= 9; number++) {
                if ((gone >> number & 1) == 1) {
                    c.same("lowest number: addSlide()", number, x.addSlide());
                }
            }
        }
    }

    /** "The slides are in an order; a new slide is put at its end." */
    private void newSlideAtTheEnd() {
        Run x = new Run();
        c.same("order: addSlide()", 0, x.addSlide());
        c.same("order: the only one", 0, x.slideAt(0));
        x.addSlide();
        x.moveSlide(1, 0);
        x.addSlide();
        c.same("order: at the end", 2, x.slideAt(2));
        x.removeSlide(1);
        c.same("order: a low number", 1, x.addSlide());
        c.same("order: is at the end too", 1, x.slideAt(2));
        c.same("order: its place", 2, x.slide(1, 0));
        c.same("order: the others stay", 0, x.slideAt(0));
        c.same("order: the others stay", 2, x.slideAt(1));
        c.same("order: no more", RevealDeck.NONE, x.slideAt(3));
    }

    /** "A slide is hidden or not (not at first)." */
    private void notHiddenAtFirst() {
        Run x = Run.deck(10);
        for (int number = 0; number <= 9; number++) {
            c.same("hidden: not at first", 0, x.slide(number, 1));
        }
        for (int number = 0; number <= 9; number++) {
            c.same("hidden: one more", number + 1, x.hide(number, true));
        }
        x.removeSlide(9);
        x.addSlide();
        c.same("hidden: not at first, though one with the number was", 0, x.slide(9, 1));
        c.same("hidden: one less", 8, x.hide(0, false));
    }

    /** "It has a pause, a number of seconds from 0 to 60 (0 at first)." */
    private void pause() {
        Run x = Run.deck(2);
        c.same("pause: 0 at first", 0, x.slide(1, 2));
        for (int seconds = 0; seconds <= 60; seconds++) {
            c.same("pause: setPause(1, " + seconds + ")", Math.max(0, seconds - 1), x.setPause(1, seconds));
            c.same("pause: slide(1, 2)", seconds, x.slide(1, 2));
        }
        c.refused(x, "pause: 61", RevealDeck.BAD_VALUE, d -> d.setPause(1, 61));
        c.refused(x, "pause: -1", RevealDeck.BAD_VALUE, d -> d.setPause(1, -1));
        c.same("pause: of another slide", 0, x.slide(0, 2));
    }

    /** "A slide has at most 6 items, with the places 0, 1, 2 and so on; a new item is put behind the others" */
    private void atMostSixItems() {
        Run x = Run.deck(2);
        for (int place = 0; place <= 5; place++) {
            c.same("items: how many", place, x.slide(0, 3));
            c.same("items: addItem", place, x.addItem(0, place, -1, 10 + place));
            c.same("items: put behind", 10 + place, x.item(0, place, 2));
        }
        c.same("items: how many", 6, x.slide(0, 3));
        c.refused(x, "items: the 7th", RevealDeck.TOO_MANY, d -> d.addItem(0, 0, -1, 0));
        c.same("items: no place 6", RevealDeck.NO_SUCH, x.item(0, 6, 2));
        c.same("items: another slide has its own", 0, x.addItem(1, 0, -1, 0));
        c.same("items: removeItem(0, 5)", 5, x.removeItem(0, 5));
        c.same("items: room for one", 5, x.addItem(0, 0, -1, 77));
        c.same("items: behind the others", 77, x.item(0, 5, 2));
        c.refused(x, "items: but for one only", RevealDeck.TOO_MANY, d -> d.addItem(0, 0, -1, 0));
    }

    /** "when an item is removed, those behind it move up by one place" */
    private void placesMoveUp() {
        for (int gone = 0; gone <= 5; gone++) {
            Run x = Run.deck(1);
            for (int place = 0; place <= 5; place++) {
                x.addItem(0, place, place == 2 ? -1 : place + 1, 20 + place);
            }
            c.same("move up: removeItem(0, " + gone + ")", 5, x.removeItem(0, gone));
            for (int place = 0; place <= 4; place++) {
                int old = place < gone ? place : place + 1;
                c.same("move up: first", old, x.item(0, place, 0));
                c.same("move up: last", old == 2 ? RevealDeck.NONE : old + 1, x.item(0, place, 1));
                c.same("move up: label", 20 + old, x.item(0, place, 2));
            }
            c.same("move up: none at the end", RevealDeck.NO_SUCH, x.item(0, 5, 0));
            c.refused(x, "move up: none at the end", RevealDeck.NO_SUCH, d -> d.removeItem(0, 5));
            for (int left = 4; left >= 0; left--) {
                c.same("move up: removeItem(0, 0)", left, x.removeItem(0, 0));
            }
            c.refused(x, "move up: none is left", RevealDeck.NO_SUCH, d -> d.removeItem(0, 0));
        }
    }

    /** "An item has a first step (0 to 9), a last step and a label (0 to 99)." */
    private void itemRanges() {
        Run x = Run.deck(1);
        for (int label = 0; label <= 99; label++) {
            c.same("item: label " + label, 0, x.addItem(0, label % 10, -1, label));
            c.same("item: first", label % 10, x.item(0, 0, 0));
            c.same("item: label", label, x.item(0, 0, 2));
            x.removeItem(0, 0);
        }
        Run y = Run.deck(1);
        for (int label : new int[] {-1, 100}) {
            c.refused(y, "item: label " + label, RevealDeck.BAD_VALUE, d -> d.addItem(0, 0, -1, label));
        }
        for (int first : new int[] {-2, -1, 10}) {
            c.refused(y, "item: first " + first, RevealDeck.BAD_VALUE, d -> d.addItem(0, first, -1, 0));
            c.refused(y, "item: first and last " + first, RevealDeck.BAD_VALUE, d -> d.addItem(0, first, first, 0));
            c.refused(y, "item: first " + first + ", last 9", RevealDeck.BAD_VALUE, d -> d.addItem(0, first, 9, 0));
        }
    }

    /** A first and a last step, -1 for none: all that the document allows. */
    private static List<int[]> allSteps() {
        List<int[]> all = new ArrayList<>();
        for (int first = 0; first <= 9; first++) {
            all.add(new int[] {first, -1});
            for (int last = first; last <= 9; last++) {
                all.add(new int[] {first, last});
            }
        }
        return all;
    }

    /** "It is seen in the steps from its first step to its last one. ... or there is none: then it is seen in all steps from its first one on." */
    private void seenFromFirstToLast() {
        for (int[] steps : allSteps()) {
            String item = "seen: (" + steps[0] + ", " + steps[1] + ")";
            Run x = Run.deck(1);
            x.addItem(0, 9, 9, 1);
            c.same(item, 1, x.addItem(0, steps[0], steps[1], 10));
            c.same(item + ": item(0, 1, 1)", steps[1] == -1 ? RevealDeck.NONE : steps[1], x.item(0, 1, 1));
            x.start();
            for (int step = 0; step <= 9; step++) {
                boolean isSeen = step >= steps[0] && (steps[1] == -1 || step <= steps[1]);
                int other = step == 9 ? 1 : 0;
                c.same(item + ": picture(0, " + step + ")", (isSeen ? 2 : 0) + other, x.picture(0, step));
                c.same(item + ": labels() at " + step, (isSeen ? 10 : 0) + other, x.labels());
                x.forward();
            }
        }
    }

    /** "The last step is at least the first one and at most 9, or there is none" */
    private void lastStepBelowFirst() {
        Run x = Run.deck(1);
        for (int i = 0; i <= 9; i++) {
            int first = i;
            for (int last = 0; last < first - 1; last++) {
                c.same("last: (" + first + ", " + last + ")", RevealDeck.BAD_VALUE, x.addItem(0, first, last, 0));
            }
            if (first > 0) {
                c.refused(x, "last: one below " + first, RevealDeck.BAD_VALUE, d -> d.addItem(0, first, first - 1, 0));
            }
            c.refused(x, "last: (" + first + ", 10)", RevealDeck.BAD_VALUE, d -> d.addItem(0, first, 10, 0));
            c.refused(x, "last: (" + first + ", -2)", RevealDeck.BAD_VALUE, d -> d.addItem(0, first, -2, 0));
        }
    }

    private static int finalStepOf(int[] steps) {
        int behind = steps[1] == -1 || steps[1] == 9 ? 0 : steps[1] + 1;
        return Math.max(steps[0], behind);
    }

    /** "the greatest number of all first steps and of all last steps plus 1 (of items that have a last step, and only if this is not above 9). It is 0 if the slide has no items." */
    private void finalStep() {
        for (int[] steps : allSteps()) {
            String item = "final step: (" + steps[0] + ", " + steps[1] + ")";
            Run x = Run.deck(1);
            c.same("final step: no items", 0, x.slide(0, 4));
            x.addItem(0, steps[0], steps[1], 1);
            c.same(item, finalStepOf(steps), x.slide(0, 4));
            x.start();
            for (int step = 1; step <= finalStepOf(steps); step++) {
                c.same(item + ": forward()", step, x.forward());
            }
            c.refused(x, item + ": no further", RevealDeck.NOT_POSSIBLE, RevealDeck::forward);
            x.removeItem(0, 0);
            c.same("final step: no items any more", 0, x.slide(0, 4));
            c.same("final step: the step is cut to it", 0, x.now(1));
        }
    }

    /** "The final step of a slide is the greatest step at which an item is first seen, or first not seen any more" */
    private void finalStepOfTwo() {
        for (int[] one : allSteps()) {
            for (int[] two : allSteps()) {
                Run x = Run.deck(1);
                x.addItem(0, one[0], one[1], 1);
                x.addItem(0, two[0], two[1], 1);
                c.same("final step of two items", Math.max(finalStepOf(one), finalStepOf(two)), x.slide(0, 4));
            }
        }
    }

    /** "A slide has at most 3 links" */
    private void atMostThreeLinks() {
        Run x = Run.deck(5);
        c.same("links: none at first", 0, x.slide(0, 5));
        c.same("links: the 1st", 1, x.link(0, 0, 1));
        c.same("links: the 2nd", 2, x.link(0, 9, 2));
        c.same("links: the 3rd", 3, x.link(0, 4, 3));
        for (int key = 0; key <= 9; key++) {
            int k = key;
            if (key != 0 && key != 9 && key != 4) {
                c.refused(x, "links: the 4th, for the key " + key, RevealDeck.TOO_MANY, d -> d.link(0, k, 1));
            }
        }
        c.same("links: another slide has its own", 1, x.link(1, 7, 0));
        c.same("links: removeSlide of a target", 4, x.removeSlide(2));
        c.same("links: its link is gone", 2, x.slide(0, 5));
        c.same("links: room for one", 3, x.link(0, 5, 4));
        c.refused(x, "links: but for one only", RevealDeck.TOO_MANY, d -> d.link(0, 6, 4));
        c.same("links: unlink", 2, x.unlink(0, 0));
        c.same("links: room for one", 3, x.link(0, 6, 4));
        c.refused(x, "links: but for one only", RevealDeck.TOO_MANY, d -> d.link(0, 0, 4));
    }

    /** "a link has a key (0 to 9, at most one link of a slide for each key)" */
    private void oneLinkForEachKey() {
        for (int key = 0; key <= 9; key++) {
            int k = key;
            Run x = Run.deck(3);
            c.same("keys: link", 1, x.link(0, key, 1));
            c.same("keys: replaced", 1, x.link(0, key, 2));
            for (int other = 0; other <= 9; other++) {
                c.same("keys: target(0, " + other + ")", other == key ? 2 : RevealDeck.NONE, x.target(0, other));
            }
            x.link(0, (key + 1) % 10, 1);
            x.link(0, (key + 9) % 10, 1);
            c.same("keys: replaced though there are 3", 3, x.link(0, key, 1));
            x.start();
            c.same("keys: press", 1, x.press(key));
            c.refused(x, "keys: of another slide", RevealDeck.NOT_POSSIBLE, d -> d.press(k));
            c.same("keys: unlink", 2, x.unlink(0, key));
            c.refused(x, "keys: unlink again", RevealDeck.NO_SUCH, d -> d.unlink(0, k));
        }
        Run y = Run.deck(2);
        for (int key : new int[] {-1, 10}) {
            c.refused(y, "keys: link by " + key, RevealDeck.BAD_VALUE, d -> d.link(0, key, 1));
            c.same("keys: target by " + key, RevealDeck.BAD_VALUE, y.target(0, key));
        }
    }

    /** "and a target, a slide (it can be the same one)" */
    private void linkToItself() {
        Run x = Run.deck(10);
        for (int number = 0; number <= 9; number++) {
            c.same("to itself: link", 1, x.link(number, number, number));
            c.same("to itself: target", number, x.target(number, number));
        }
        x.start();
        c.same("to itself: press(0)", 0, x.press(0));
        c.same("to itself: it is a move", 1, x.now(4));
        c.same("to itself: of a removed slide", 9, x.removeSlide(5));
        c.same("to itself: a new slide has none", 5, x.addSlide());
        c.same("to itself: a new slide has none", 0, x.slide(5, 5));
    }

    // ---- notes and settings

    /** "There are at most 8 notes ... (0 to 9999; no two notes have the same one)" */
    private void atMostEightNotes() {
        Run x = Run.deck(1);
        for (int i = 1; i <= 8; i++) {
            c.same("notes: one more", i, x.note(i, 10 + i));
            c.same("notes: the same second", i, x.note(i, i));
        }
        c.refused(x, "notes: the 9th", RevealDeck.TOO_MANY, d -> d.note(9, 9));
        c.refused(x, "notes: the 9th", RevealDeck.TOO_MANY, d -> d.note(0, 0));
        c.same("notes: a change is possible", 8, x.note(8, 80));
        x.start();
        for (int second = 0; second <= 9; second++) {
            int due = second == 0 ? RevealDeck.NONE : second >= 8 ? 80 : second;
            c.same("notes: noteNow() at " + second, due, x.noteNow());
            x.tick(1);
        }
        c.same("notes: one is removed", 7, x.note(4, -1));
        c.same("notes: room for one", 8, x.note(9, 9));
        c.refused(x, "notes: but for one only", RevealDeck.TOO_MANY, d -> d.note(4, 4));
        int[] seconds = {1, 9, 2, 3, 8, 5, 7, 6};
        for (int i = 0; i < 8; i++) {
            c.same("notes: one is removed", 7 - i, x.note(seconds[i], -1));
        }
        c.refused(x, "notes: none is left", RevealDeck.NO_SUCH, d -> d.note(6, -1));
    }

    /** "a note has a second (0 to 9999 ...) and a number (0 to 99)" */
    private void noteRanges() {
        Run x = Run.deck(1);
        x.start();
        for (int number = 0; number <= 99; number++) {
            c.same("note: note(0, " + number + ")", 1, x.note(0, number));
            c.same("note: noteNow()", number, x.noteNow());
        }
        c.same("note: note(9999, 0)", 2, x.note(9999, 0));
        c.same("note: note(9998, 99)", 3, x.note(9998, 99));
        c.refused(x, "note: note(10000, 0)", RevealDeck.BAD_VALUE, d -> d.note(10000, 0));
        c.refused(x, "note: note(-1, 0)", RevealDeck.BAD_VALUE, d -> d.note(-1, 0));
        c.refused(x, "note: note(0, 100)", RevealDeck.BAD_VALUE, d -> d.note(0, 100));
        c.refused(x, "note: note(0, -2)", RevealDeck.BAD_VALUE, d -> d.note(0, -2));
        c.same("note: note(9999, -1)", 2, x.note(9999, -1));
        c.same("note: note(0, -1)", 1, x.note(0, -1));
        c.same("note: note(9998, -1)", 0, x.note(9998, -1));
        c.refused(x, "note: none is left", RevealDeck.NO_SUCH, d -> d.note(9998, -1));
    }

    /** "The note of now is the one with the greatest second that is at most the clock." */
    private void noteOfNow() {
        Run x = Run.deck(1);
        x.note(9999, 3);
        x.note(9998, 2);
        x.note(0, 1);
        x.start();
        for (int i = 0; i < 100; i++) {
            c.same("note of now: long before", 1, x.noteNow());
            x.tick(99);
        }
        x.tick(97);
        c.same("note of now: the clock", 9997, x.now(2));
        c.same("note of now: at 9997", 1, x.noteNow());
        x.tick(1);
        c.same("note of now: at 9998", 2, x.noteNow());
        x.tick(1);
        c.same("note of now: at 9999", 3, x.noteNow());
        x.tick(99);
        c.same("note of now: the clock goes beyond 9999", 10098, x.now(2));
        c.same("note of now: beyond 9999", 3, x.noteNow());
        x.note(9999, -1);
        c.same("note of now: the next one below", 2, x.noteNow());
        x.note(9998, -1);
        x.note(0, -1);
        c.same("note of now: no notes", RevealDeck.NONE, x.noteNow());
        c.same("note of now: no sooner than the clock", 1, x.note(0, 4));
        c.same("note of now: at second 0", 4, x.noteNow());
    }

    /** "The setting END is 0 to 9999 (0 at first)." */
    private void endRange() {
        Run x = new Run();
        c.same("END: 0 at first", 0, x.end());
        c.same("END: 0 at first", 0, x.setEnd(1));
        c.same("END: setEnd(9999)", 1, x.setEnd(9999));
        c.same("END: 9999", 9999, x.end());
        c.refused(x, "END: 10000", RevealDeck.BAD_VALUE, d -> d.setEnd(10000));
        c.refused(x, "END: -1", RevealDeck.BAD_VALUE, d -> d.setEnd(-1));
        c.same("END: setEnd(0)", 9999, x.setEnd(0));
    }

    // ---- text

    /** "There is a text of at most 60 characters (empty at first)" */
    private void atMostSixtyCharacters() {
        Run x = new Run();
        c.same("text: empty at first", 0, x.clearText());
        for (int length = 1; length <= 60; length++) {
            c.same("text: append", length, x.append(length % 2 == 1 ? 'f' : ';'));
        }
        c.refused(x, "text: the 61st", RevealDeck.TOO_MANY, d -> d.append('f'));
        c.same("text: clearText()", 60, x.clearText());
        c.same("text: room again", 1, x.append('b'));
        c.same("text: nothing of the old one", RevealDeck.NONE, x.fault());
    }

    /** "text = move { ";" move }", "move = "f" | "b" | "k" key | "t" number": all texts of at most 5 of these characters. */
    private void shortTexts() {
        String signs = "fbkt019;x";
        typeAll("", signs, 5);
    }

    private void typeAll(String begun, String signs, int more) {
        faultOf(begun);
        for (int i = 0; i < signs.length() && more > 0; i++) {
            typeAll(begun + signs.charAt(i), signs, more - 1);
        }
    }

    private void faultOf(String text) {
        Run x = new Run();
        Check.type(x, text);
        int due = Model.faultOf(text);
        c.same("text: fault() of '" + text + "'", due, x.fault());
        c.same("text: run() of '" + text + "'", due == RevealDeck.NONE ? 0 : RevealDeck.BAD_TEXT, x.run());
    }

    /** "A key is a digit, a number is from 1 to 99 without leading zeros.": each character behind each kind of beginning, and each number. */
    private void oneMoreCharacter() {
        for (String begun : new String[] {"", "f", "b", "k", "k5", "t", "t5", "t50", "t1;", "f;k", "b;t", "b;t9"}) {
            for (char sign = 32; sign <= 126; sign++) {
                faultOf(begun + sign);
                faultOf(begun + sign + 'f');
            }
        }
        for (int number = 0; number <= 120; number++) {
            Run x = Run.deck(1);
            x.start();
            Check.type(x, "t" + number);
            boolean isGood = number >= 1 && number <= 99;
            c.same("text: t" + number, isGood ? RevealDeck.NONE : number == 0 ? 1 : 3, x.fault());
            c.same("text: run() of t" + number, isGood ? 1 : RevealDeck.BAD_TEXT, x.run());
            c.same("text: the clock behind t" + number, isGood ? number : 0, x.now(2));
            Check.type(x, "t0" + number);
            c.same("text: a leading zero in t0" + number, 1, x.fault());
        }
    }

    /** "no text begins with the characters up to and including it (however long such a text is). If there is no such character but the text is not complete (as the empty text), the fault is the length of the text." */
    private void longTexts() {
        String moves58 = "t1;" + "f;".repeat(27) + "b";
        String[] texts = {moves58 + ";f", moves58 + ";k", moves58 + ";t", moves58 + ";x", moves58 + ";", moves58, moves58 + "f"};
        int[] due = {RevealDeck.NONE, 60, 60, 59, 59, RevealDeck.NONE, 58};
        for (int i = 0; i < texts.length; i++) {
            Run x = Run.deck(1);
            Check.type(x, texts[i]);
            c.same("fault: of '" + texts[i] + "'", due[i], x.fault());
        }
        Run full = Run.deck(1);
        Check.type(full, "f;".repeat(30));
        c.same("fault: full, but not complete", 60, full.fault());
        c.refused(full, "fault: full, but not complete", RevealDeck.BAD_TEXT, RevealDeck::run);
        Run empty = Run.deck(1);
        c.same("fault: of the empty text", 0, empty.fault());
        c.refused(empty, "fault: of the empty text", RevealDeck.BAD_TEXT, RevealDeck::run);
    }

    // ---- actions and history

    /** "Each action that returns no error code records the state before it in the history, even if the action changes nothing." */
    private void recordsEvenIfNothingChanges() {
        records("addSlide()", Run::addSlide);
        records("removeSlide(2)", x -> x.removeSlide(2));
        records("moveSlide(1, 1)", x -> x.moveSlide(1, 1));
        records("moveSlide(1, 2)", x -> x.moveSlide(1, 2));
        records("hide(0, false)", x -> x.hide(0, false));
        records("hide(0, true)", x -> x.hide(0, true));
        records("setPause(0, 3)", x -> x.setPause(0, 3));
        records("setPause(0, 4)", x -> x.setPause(0, 4));
        records("addItem(2, 0, 9, 0)", x -> x.addItem(2, 0, 9, 0));
        records("removeItem(1, 0)", x -> x.removeItem(1, 0));
        records("link(0, 1, 2)", x -> x.link(0, 1, 2));
        records("link(0, 2, 2)", x -> x.link(0, 2, 2));
        records("unlink(0, 1)", x -> x.unlink(0, 1));
        records("note(4, 4)", x -> x.note(4, 4));
        records("note(5, 5)", x -> x.note(5, 5));
        records("note(4, -1)", x -> x.note(4, -1));
        records("setEnd(500)", x -> x.setEnd(500));
        records("setEnd(0)", x -> x.setEnd(0));
        records("start()", Run::start);
        records("stop()", Run::stop);
        records("forward()", Run::forward);
        records("back()", Run::back);
        records("press(8)", x -> x.press(8));
        records("tick(1)", x -> x.tick(1));
        records("run()", Run::run);
        Run fresh = Run.deck(1);
        fresh.start();
        String before = Looks.stateOf(fresh::again);
        fresh.start();
        c.sameText("history: start() at the start changes nothing", before, Looks.stateOf(fresh::again));
        c.same("history: but is recorded", 2, fresh.undo());
        Check.type(fresh, "b");
        c.same("history: run() of no move", 0, fresh.run());
        c.sameText("history: run() of no move changes nothing", before, Looks.stateOf(fresh::again));
        c.same("history: but is recorded", 2, fresh.undo());
    }

    /** The latest state is the one before the action, and the states before it are still there. */
    private void records(String call, ToIntFunction<Run> action) {
        Run x = Run.busy();
        x.setEnd(123);
        x.setEnd(500);
        String before = Looks.stateOf(x::again);
        c.same("history: " + call + " is possible (1 for yes)", 1, action.applyAsInt(x) >= 0 ? 1 : 0);
        c.same("history: undo() of " + call, 3, x.undo());
        c.sameText("history: undo() of " + call, before, Looks.stateOf(x::again));
        Run notes = x.again();
        c.same("history: the note is as before " + call, 2, notes.note(4, 4));
        c.same("history: the note is as before " + call, 1, notes.note(4, -1));
        c.same("history: no note is new by " + call, RevealDeck.NO_SUCH, notes.note(5, -1));
        c.same("history: the state before that", 2, x.undo());
        c.same("history: the state before that", 123, x.end());
        c.same("history: the oldest state", 1, x.undo());
        c.same("history: the oldest state", 500, x.end());
    }

    /** "The state consists of the deck, the notes, END and the presentation.": the first and the last of each of them. */
    private void undoOfFullRooms() {
        undone("removeItem(0, 0)", 1, x -> x.removeItem(0, 0));
        undone("removeItem(9, 0)", 1, x -> x.removeItem(9, 0));
        for (int slide : new int[] {0, 9}) {
            undone("removeItem and addItem at the end", 2, x -> Math.min(x.removeItem(slide, 5), x.addItem(slide, 1, 1, 1)));
            undone("link by the first key", 1, x -> x.link(slide, 0, 3));
            undone("link by the last key", 1, x -> x.link(slide, 9, 3));
            undone("unlink of the first key", 1, x -> x.unlink(slide, 0));
            undone("unlink of the last key", 1, x -> x.unlink(slide, 9));
            undone("setPause", 1, x -> x.setPause(slide, 33));
            undone("hide", 1, x -> x.hide(slide, true));
            undone("moveSlide to the first place", 1, x -> x.moveSlide(slide, 0));
            undone("moveSlide to the last place", 1, x -> x.moveSlide(slide, 9));
            undone("removeSlide", 1, x -> x.removeSlide(slide));
            undone("removeSlide and addSlide", 2, x -> Math.min(x.removeSlide(slide), x.addSlide()));
        }
        undone("note: the first", 1, x -> x.note(1, 50));
        undone("note: the last", 1, x -> x.note(8, 50));
        undone("note: the first removed", 1, x -> x.note(1, -1));
        undone("note: the last removed", 1, x -> x.note(8, -1));
        undone("note: the first removed, another new", 2, x -> Math.min(x.note(1, -1), x.note(9, 50)));
        undone("setEnd", 1, x -> x.setEnd(7));
        undone("start", 1, Run::start);
        undone("start and forward", 2, x -> Math.min(x.start(), x.forward()));
        undone("stop", 1, Run::stop);
        undone("stop and start", 2, x -> Math.min(x.stop(), x.start()));
        undone("forward", 1, Run::forward);
        undone("back", 1, Run::back);
        undone("back and forward", 2, x -> Math.min(x.back(), x.forward()));
        undone("press", 1, x -> x.press(0));
        undone("tick: all of the trail is new", 1, x -> x.tick(41));
        undone("run: much of the trail is new", 1, Run::run);
    }

    private void undone(String action, int undos, ToIntFunction<Run> made) {
        Run x = fullRooms();
        String before = Looks.stateOf(x::again) + '\n' + Check.notesOf(x.again());
        c.same("full rooms: " + action + " is possible (1 for yes)", 1, made.applyAsInt(x) >= 0 ? 1 : 0);
        for (int i = 0; i < undos; i++) {
            c.same("full rooms: undo() of " + action, 3 - i, x.undo());
        }
        c.sameText("full rooms: undo() of " + action, before, Looks.stateOf(x::again) + '\n' + Check.notesOf(x.again()));
    }

    /** 10 slides; the first and the last one with 6 items and 3 links; 8 notes; a trail of 40 positions, marked at its end. */
    private static Run fullRooms() {
        Run x = Run.deck(10);
        for (int slide = 0; slide <= 9; slide++) {
            x.setPause(slide, 1);
            x.addItem(slide, 9, -1, slide);
        }
        for (int slide : new int[] {0, 9}) {
            for (int place = 1; place <= 5; place++) {
                x.addItem(slide, place, place + slide / 3, 10 * place + slide);
            }
            x.link(slide, 0, 9 - slide);
            x.link(slide, 5, 5);
            x.link(slide, 9, slide);
        }
        x.link(4, 0, 4);
        for (int second = 1; second <= 8; second++) {
            x.note(second, 10 * second);
        }
        x.start();
        x.tick(45);
        x.press(0);
        x.tick(3);
        Check.type(x, "f;".repeat(29) + "f");
        return x;
    }

    /** "The history holds at most 4 states; when a fifth state is recorded, the oldest one is dropped." */
    private void atMostFourStates() {
        for (int actions = 0; actions <= 11; actions++) {
            Run x = new Run();
            for (int i = 1; i <= actions; i++) {
                x.setEnd(i);
            }
            int states = Math.min(4, actions);
            for (int left = states - 1; left >= 0; left--) {
                c.same("states: undo() behind " + actions, left, x.undo());
                c.same("states: end()", actions - states + left, x.end());
            }
            int end = actions - states;
            c.refused(x, "states: none is left", RevealDeck.NONE, RevealDeck::undo);
            c.same("states: end()", end, x.end());
            x.setEnd(77);
            c.same("states: recorded anew", 0, x.undo());
            c.same("states: recorded anew", end, x.end());
        }
    }

    /** "The moves of run record no states by themselves." */
    private void movesOfRunRecordNothing() {
        Run x = Run.deck(4);
        x.link(2, 5, 0);
        x.setEnd(44);
        x.setEnd(55);
        x.start();
        Check.type(x, "f;f;t3;b;f;k5;f");
        c.same("moves of run: run()", 7, x.run());
        c.same("moves of run: one state for all", 3, x.undo());
        c.same("moves of run: before all moves", 0, x.now(0));
        c.same("moves of run: before all moves", 0, x.now(2));
        c.same("moves of run: before all moves", 0, x.now(4));
        c.same("moves of run: the states before are there", 2, x.undo());
        c.same("moves of run: before start()", RevealDeck.NONE, x.now(0));
        c.same("moves of run: the states before are there", 1, x.undo());
        c.same("moves of run: before setEnd(55)", 44, x.end());
    }

    /** "The text, the report of run (see why) and the history are not part of the state." */
    private void notPartOfTheState() {
        Run x = Run.deck(2);
        Check.type(x, "f;f;f");
        x.start();
        x.run();
        c.same("not part of the state: why(0)", 1, x.why(0));
        x.clearText();
        x.append('b');
        c.same("not part of the state: undo() of run", 3, x.undo());
        c.same("not part of the state: the report stays", 1, x.why(0));
        c.same("not part of the state: the report stays", 2, x.why(1));
        c.same("not part of the state: the report stays", 1, x.why(2));
        c.same("not part of the state: the report stays", 0, x.why(3));
        c.same("not part of the state: the text stays", RevealDeck.NONE, x.fault());
        c.same("not part of the state: the text stays", 1, x.clearText());
        c.same("not part of the state: undo() of start", 2, x.undo());
        c.same("not part of the state: the report stays", 1, x.why(2));
        c.same("not part of the state: the history is shorter by one each time", 1, x.undo());
        c.same("not part of the state: append and clearText are no actions", 0, x.undo());
    }

    /** "these methods change nothing": those that tell what there is and what would be; fault and why change nothing either. */
    private void lookingChangesNothing() {
        Run x = Run.busy();
        for (int i = -1; i <= 10; i++) {
            int value = i;
            c.unchanged(x, "slideAt(" + value + ")", d -> d.slideAt(value));
            c.unchanged(x, "now(" + value + ")", d -> d.now(value));
            c.unchanged(x, "fewest(" + value + ")", d -> d.fewest(value));
            c.unchanged(x, "why(" + value + ")", d -> d.why(value));
            c.unchanged(x, "slide(1, " + value + ")", d -> d.slide(1, value));
            c.unchanged(x, "item(0, 1, " + value + ")", d -> d.item(0, 1, value));
            c.unchanged(x, "target(1, " + value + ")", d -> d.target(1, value));
            c.unchanged(x, "picture(0, " + value + ")", d -> d.picture(0, value));
            c.unchanged(x, "trail(1, " + value + ")", d -> d.trail(1, value));
        }
        c.unchanged(x, "slides()", RevealDeck::slides);
        c.unchanged(x, "labels()", RevealDeck::labels);
        c.unchanged(x, "noteNow()", RevealDeck::noteNow);
        c.unchanged(x, "end()", RevealDeck::end);
        c.unchanged(x, "meanSteps()", d -> (int) d.meanSteps());
        c.unchanged(x, "movesLeft()", RevealDeck::movesLeft);
        c.unchanged(x, "secondsLeft()", RevealDeck::secondsLeft);
        c.unchanged(x, "backTo()", RevealDeck::backTo);
        c.unchanged(x, "fault()", RevealDeck::fault);
        c.unchanged(Run.deck(0), "undo() of nothing", RevealDeck::undo);
    }
}
