import java.util.function.ToIntFunction;

/** Counts the answers of a test and prints those that are not the ones that are due. */
final class Check {
    private final String name;
    private int answers = 0;
    private int wrong = 0;

    Check(String name) {
        this.name = name;
    }

    void same(String call, long due, long got) {
        answers++;
        if (due != got) {
            wrong++;
            System.out.println(name + ": " + call + " answered " + got + ", due is " + due);
        }
    }

    void sameFloat(String call, float due, float got) {
        same(call + " (bits)", Float.floatToIntBits(due), Float.floatToIntBits(got));
    }

    void sameText(String call, String due, String got) {
        answers++;
        if (!due.equals(got)) {
            wrong++;
            String[] dueLines = due.split("\n", -1);
            String[] gotLines = got.split("\n", -1);
            int line = 0;
            while (line < dueLines.length - 1 && line < gotLines.length - 1 && dueLines[line].equals(gotLines[line])) {
                line++;
            }
            System.out.println(name + ": " + call + "\n  there is  " + gotLines[line] + "\n  where due " + dueLines[line]);
        }
    }

    /** The call answers this error code and changes nothing. */
    void refused(Run x, String call, int code, ToIntFunction<RevealDeck> made) {
        unchanged(x, call, made);
        same(call, code, x.call(made));
    }

    /** All that can be seen of the object with this call is as without it, and so is what is behind each undo. */
    void unchanged(Run x, String call, ToIntFunction<RevealDeck> made) {
        for (int undos = 0; undos <= 4; undos++) {
            Run without = x.again();
            Run with = x.again();
            with.call(made);
            for (int i = 0; i < undos; i++) {
                same(call + ", then undo()", without.undo(), with.undo());
            }
            String when = call + ", then " + undos + " times undo()";
            sameText(when, Looks.stateOf(without::again), Looks.stateOf(with::again));
            sameText(when, restOf(without.again()), restOf(with.again()));
        }
    }

    /** What only other calls tell: the report, the text by its run, the number of states, the notes. */
    private static String restOf(Run x) {
        StringBuilder told = new StringBuilder("report");
        for (int what = 0; what <= 3; what++) {
            told.append(' ').append(x.why(what));
        }
        told.append("\ntext ").append(x.fault()).append(" run ").append(x.run());
        for (int what = 0; what <= 3; what++) {
            told.append(' ').append(x.why(what)).append('/').append(x.now(what));
        }
        told.append(" length ").append(x.clearText()).append(" undo ").append(x.undo());
        return told.append('\n').append(notesOf(x)).toString();
    }

    /** What the notes of the seconds 0 to 10 and 9999 are; starts a presentation for that, and removes them. */
    static String notesOf(Run x) {
        StringBuilder told = new StringBuilder("notes ");
        told.append(x.setEnd(0)).append(' ').append(x.start());
        for (int second = 0; second <= 10; second++) {
            told.append(' ').append(x.noteNow()).append('/').append(x.tick(1));
        }
        for (int second = 0; second <= 10; second++) {
            told.append(' ').append(x.note(second, -1));
        }
        return told.append(' ').append(x.note(9999, -1)).toString();
    }

    /** Ends the program with exit code 1 if an answer was wrong. */
    void end() {
        System.out.println(name + ": " + answers + " answers, " + wrong + " wrong");
        if (wrong != 0 || answers == 0) {
            System.exit(1);
        }
    }

    /** Puts this text in the place of the one that there was. */
    static void type(Run x, String text) {
        x.clearText();
        for (int i = 0; i < text.length(); i++) {
            x.append(text.charAt(i));
        }
    }
}
