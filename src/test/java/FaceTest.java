import java.lang.reflect.Constructor;
import java.lang.reflect.Field;
import java.lang.reflect.Method;
import java.lang.reflect.Modifier;
import java.util.Arrays;
import java.util.Set;
import java.util.TreeSet;

/** The public face that the document prints: its methods with what they throw, its constants, its constructor. */
public final class FaceTest {
    static final String[] FACE = {
        "int add(int,int,int) BAS", "int remove(int) BS", "int dress(int,int) BA", "int text(int,int) BA",
        "boolean contain(int,boolean) B", "int window(int) A", "int rule(int,int,int,int,int,boolean) AS",
        "int part(int,int,int,int,int) BAS", "int ask(int,int) BA", "int declare(int,int,int) BAS",
        "int say(int,int,int) BAS", "int refer(int,int,int,int) BAS", "int empty(int) B", "boolean fits(int,int) B",
        "int weight(int) B", "int value(int,int) B", "int valueAnew(int,int) B", "int from(int,int) B",
        "int box(int,int) BA", "int boxAnew(int,int) BA", "int lines(int) B", "int elements() ", "int reached() ",
    };
    private static final String[] CONSTANTS = {
        "NONE -1", "AUTO -2", "WIDTH 0", "HEIGHT 1", "MOST 2", "ABOVE 3", "BEHIND 4", "DISPLAY 5", "GROW 6", "TRACKS 7",
        "COLOUR 8", "SIZE 9", "VARIABLES 10", "MARGIN 14", "BLOCK 0", "ROW 1", "GRID 2", "NOTHING 3", "CHILD 0",
        "BELOW 1", "NEXT 2", "READER 0", "AUTHOR 1", "INHERIT 0", "INITIAL 1", "UNSET 2", "BACK 3",
    };

    public static void main(String[] args) {
        Class<?> face = CascadeHouse.class;
        Check.due("modifiers", Modifier.toString(face.getModifiers()), "public final");
        Check.due("methods", methods(face).toString(), new TreeSet<>(Arrays.asList(FACE)).toString());
        Check.due("constants", constants(face).toString(), new TreeSet<>(Arrays.asList(CONSTANTS)).toString());
        Constructor<?>[] made = face.getConstructors();
        Check.due("constructors", made.length, 1);
        Check.due("constructor", made[0].toString(), "public CascadeHouse()");
        Check.end();
    }

    private static Set<String> methods(Class<?> face) {
        Set<String> told = new TreeSet<>();
        for (Method method : face.getDeclaredMethods()) {
            if (Modifier.isPublic(method.getModifiers())) {
                told.add(method.getReturnType().getSimpleName() + " " + method.getName() + "("
                    + join(method.getParameterTypes()) + ") " + letters(method.getExceptionTypes()));
            }
        }
        return told;
    }

    private static String join(Class<?>[] types) {
        StringBuilder told = new StringBuilder();
        for (Class<?> type : types) {
            told.append(told.length() == 0 ? "" : ",").append(type.getSimpleName());
        }
        return told.toString();
    }

    /** B, A and S for the bounds, the argument and the state, in the order of the throws clause. */
    private static String letters(Class<?>[] types) {
        StringBuilder told = new StringBuilder();
        for (Class<?> type : types) {
            String name = type.getSimpleName();
            told.append(name.equals(Check.BOUNDS) ? "B" : name.equals(Check.ARGUMENT) ? "A" : name.equals(Check.STATE) ? "S" : "?");
        }
        return told.toString();
    }

    private static Set<String> constants(Class<?> face) {
        Set<String> told = new TreeSet<>();
        for (Field field : face.getFields()) {
            int is = field.getModifiers();
            Check.due(field + " is a constant", Modifier.isStatic(is) && Modifier.isFinal(is), true);
            try {
                told.add(field.getName() + " " + field.getInt(null));
            } catch (IllegalAccessException e) {
                Check.tell(field + " cannot be read");
            }
        }
        return told;
    }
}
