import java.lang.reflect.Constructor;
import java.lang.reflect.Field;
import java.lang.reflect.Method;
import java.lang.reflect.Modifier;
import java.util.Set;
import java.util.TreeSet;

/** The face of the document: its constants, its constructor and its methods, and nothing else that others can see. */
final class FaceTest {
    private static final String[] FACE = {
        "NO_SUCH = -1", "BAD_VALUE = -2", "BAD_TEXT = -3", "TOO_MANY = -4", "NOT_POSSIBLE = -5", "NONE = -6",
        "RevealDeck()",
        "int addSlide()", "int removeSlide(int)", "int moveSlide(int,int)", "int hide(int,boolean)", "int setPause(int,int)",
        "int addItem(int,int,int,int)", "int removeItem(int,int)", "int link(int,int,int)", "int unlink(int,int)",
        "int note(int,int)", "int setEnd(int)", "int start()", "int stop()", "int forward()", "int back()", "int press(int)",
        "int tick(int)", "int append(int)", "int clearText()", "int fault()", "int run()", "int why(int)", "int undo()",
        "int slides()", "int slideAt(int)", "int slide(int,int)", "int item(int,int,int)", "int target(int,int)",
        "int picture(int,int)", "int now(int)", "int trail(int,int)", "int labels()", "int noteNow()", "int end()",
        "float meanSteps()", "int movesLeft()", "int fewest(int)", "int secondsLeft()", "int backTo()",
    };

    public static void main(String[] args) throws IllegalAccessException {
        Check c = new Check("FaceTest");
        Set<String> due = new TreeSet<>(Set.of(FACE));
        Set<String> seen = seen();
        for (String member : due) {
            c.same("'" + member + "' is there (1 for yes)", 1, seen.contains(member) ? 1 : 0);
        }
        for (String member : seen) {
            c.same("'" + member + "' is in the document (1 for yes)", 1, due.contains(member) ? 1 : 0);
        }
        c.same("the class is public and final", Modifier.PUBLIC | Modifier.FINAL, RevealDeck.class.getModifiers());
        c.end();
    }

    private static Set<String> seen() throws IllegalAccessException {
        Set<String> seen = new TreeSet<>();
        for (Field field : RevealDeck.class.getDeclaredFields()) {
            if (!Modifier.isPrivate(field.getModifiers())) {
                boolean isConstant = field.getModifiers() == (Modifier.PUBLIC | Modifier.STATIC | Modifier.FINAL);
                seen.add(field.getName() + (isConstant ? " = " + field.getInt(null) : " is no constant"));
            }
        }
        for (Constructor<?> made : RevealDeck.class.getDeclaredConstructors()) {
            if (!Modifier.isPrivate(made.getModifiers())) {
                seen.add("RevealDeck" + parameters(made.getParameterTypes()));
            }
        }
        for (Method method : RevealDeck.class.getDeclaredMethods()) {
            if (!Modifier.isPrivate(method.getModifiers())) {
                boolean isPlain = method.getModifiers() == Modifier.PUBLIC && method.getExceptionTypes().length == 0;
                seen.add((isPlain ? "" : "not plain: ") + method.getReturnType() + " " + method.getName() + parameters(method.getParameterTypes()));
            }
        }
        return seen;
    }

    private static String parameters(Class<?>[] types) {
        StringBuilder told = new StringBuilder("(");
        for (int i = 0; i < types.length; i++) {
            told.append(i == 0 ? "" : ",").append(types[i]);
        }
        return told.append(')').toString();
    }
}
