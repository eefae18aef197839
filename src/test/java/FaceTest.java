import java.lang.reflect.Constructor;
import java.lang.reflect.Field;
import java.lang.reflect.Method;
import java.lang.reflect.Modifier;
import java.util.Arrays;
import java.util.TreeSet;

/** The public face of the document, whole and alone. */
public final class FaceTest {
    private static final String[] METHODS = {
        "int set(int,int)", "int sort(int,int,int,int)", "int read()", "int drop(int)", "int swap(int,int)",
        "int clear()", "int sortOf(int,int)", "int word(int,int)", "int line(int,int,int)", "int lines(int,int)",
        "int count(int)", "int body(int,int)", "int leastMeasure(int)", "int bestShare(int)", "int worstWord()",
        "int put(long)", "int wipe()", "int fault()", "int undo()", "int save(int)", "int restore(int)",
    };
    private static final String[] CONSTANTS = {
        "NO_SUCH=-1001", "BAD_VALUE=-1002", "BAD_TEXT=-1003", "TOO_MANY=-1004", "NOT_POSSIBLE=-1005", "NONE=-1006",
        "MEASURE=0", "SPACE=1", "LOOSE=2", "HANGS=3",
    };

    public static void main(String[] args) throws Exception {
        int wrong = 0;
        wrong += differ("methods", METHODS, methods());
        wrong += differ("constants", CONSTANTS, constants());
        wrong += differ("modifiers", new String[] {"public final"}, one(Modifier.toString(HungStops.class.getModifiers())));
        TreeSet<String> makers = new TreeSet<>();
        for (Constructor<?> maker : HungStops.class.getDeclaredConstructors()) makers.add(maker.toString());
        wrong += differ("constructors", new String[] {"public HungStops()"}, makers);
        for (Class<?> inside : HungStops.class.getDeclaredClasses()) {
            if (!Modifier.isStatic(inside.getModifiers()) || Modifier.isPublic(inside.getModifiers())) {
                wrong++;
                System.out.println(inside + " is not static, or is public");
            }
        }
        System.out.println(wrong == 0 ? "the face is as due" : wrong + " parts of the face are not as due");
        if (wrong != 0) System.exit(1);
    }

    private static TreeSet<String> methods() {
        TreeSet<String> found = new TreeSet<>();
        for (Method method : HungStops.class.getDeclaredMethods()) {
            if (Modifier.isPrivate(method.getModifiers()) || method.isSynthetic()) continue;
            StringBuilder text = new StringBuilder();
            for (Class<?> kind : method.getParameterTypes()) text.append(text.length() == 0 ? "" : ",").append(kind);
            String ahead = Modifier.toString(method.getModifiers()).equals("public") ? "" : "wrongly marked ";
            found.add(ahead + method.getReturnType() + " " + method.getName() + "(" + text + ")");
        }
        return found;
    }

    private static TreeSet<String> constants() throws Exception {
        TreeSet<String> found = new TreeSet<>();
        for (Field field : HungStops.class.getDeclaredFields()) {
            if (Modifier.isPrivate(field.getModifiers()) || field.isSynthetic()) continue;
            boolean constant = Modifier.toString(field.getModifiers()).equals("public static final");
            found.add(field.getName() + (constant ? "=" + field.get(null) : " is no public constant"));
        }
        return found;
    }

    private static TreeSet<String> one(String text) {
        return new TreeSet<>(Arrays.asList(text));
    }

    private static int differ(String what, String[] want, TreeSet<String> got) {
        if (got.equals(new TreeSet<>(Arrays.asList(want)))) return 0;
        System.out.println(what + " are " + got);
        return 1;
    }
}
