import java.lang.reflect.Constructor;
import java.lang.reflect.Field;
import java.lang.reflect.Method;
import java.lang.reflect.Modifier;
import java.util.Arrays;
import java.util.TreeSet;

/** The public face: each constant, the constructor and each method, with just the document's signatures. */
public final class FaceTest {
    private static final String[] CONSTANTS = {
        "SPACE = 27", "NEWLINE = 28", "RETURN = 29", "BACK = 30", "CLEAR = 31",
        "TYPED = 0", "SIZED = 1",
        "NOTHING = 0", "LIVE = 1", "STOPPED = 2", "REPLAYING = 3",
        "WAIT = 0", "SHRINK = 1",
        "NOT_FOUND = -1", "BAD_VALUE = -2", "FULL = -3", "NOT_ALLOWED = -4",
        "SYNTAX_ERROR = -11", "RANGE_ERROR = -12", "DUPLICATE_ERROR = -14", "COUNT_ERROR = -15"};

    private static final String[] METHODS = {
        "int feed(int, int, int, int, int)", "int load(int)", "int errorPosition()", "int count(int)",
        "int undoCount()", "int named(boolean, int)", "int getSetting(int)",
        "int session(int, int) throws", "int event(int, int, int) throws", "int screen(int, int, int) throws",
        "int at(int, int, int, int) throws", "int above(int, int, int, int) throws", "int user(int, int) throws",
        "int shown(int, int, int) throws", "int cursorRow(int) throws", "int watchers(int, int) throws",
        "int rightSize(int, boolean) throws", "int narrowest(int, boolean) throws", "int whyNot(int) throws",
        "int grantedAt(int) throws", "int reachedAt(int, int) throws", "int behind(int) throws",
        "int firstShowing(int, int) throws", "int firstDifference(int, int, int) throws",
        "float fullness(int, int) throws", "int typedBy(int) throws", "int account(int)",
        "int attach(int, int)", "int detach(int)", "int goTo(int, int)", "int goLive(int)",
        "int replay(int, int, int)", "int lookBack(int, int)", "int window(int, int, int)", "int type(int, int)",
        "int request(int)", "int answer(int, boolean)", "int yield(int)", "int pass(int)", "int setSetting(int, int)",
        "int undo()", "int write(int) throws", "int outputAt(int)"};

    private FaceTest() { }

    private static String signature(Method method) {
        StringBuilder text = new StringBuilder();
        text.append(method.getReturnType()).append(' ').append(method.getName()).append('(');
        for (Class<?> type : method.getParameterTypes()) {
            text.append(text.charAt(text.length() - 1) == '(' ? "" : ", ").append(type);
        }
        text.append(')');
        for (Class<?> type : method.getExceptionTypes()) {
            text.append(type == IndexOutOfBoundsException.class ? " throws" : " throws " + type);
        }
        return text.toString();
    }

    private static TreeSet<String> constants() throws IllegalAccessException {
        TreeSet<String> found = new TreeSet<>();
        for (Field field : SharedConsole.class.getDeclaredFields()) {
            if (!Modifier.isPrivate(field.getModifiers())) {
                found.add(field.getName() + " = " + field.get(null));
            }
        }
        return found;
    }

    private static TreeSet<String> methods(boolean ofTheFace) {
        TreeSet<String> found = new TreeSet<>();
        for (Method method : SharedConsole.class.getDeclaredMethods()) {
            if (Modifier.isPrivate(method.getModifiers()) != ofTheFace) {
                found.add(ofTheFace ? signature(method) : method.getName());
            }
        }
        return found;
    }

    public static void main(String[] arguments) throws ReflectiveOperationException {
        Check.due("the class", Modifier.toString(SharedConsole.class.getModifiers()), "public final");
        Check.due("constants", constants(), new TreeSet<>(Arrays.asList(CONSTANTS)));
        Check.due("methods", methods(true), new TreeSet<>(Arrays.asList(METHODS)));
        Constructor<?>[] constructors = SharedConsole.class.getDeclaredConstructors();
        Check.due("constructors", constructors.length, 1);
        Check.due("the constructor", constructors[0].toString(), "public SharedConsole()");
        TreeSet<String> shared = methods(false);
        for (String method : METHODS) {
            String name = method.substring(method.indexOf(' ') + 1, method.indexOf('('));
            Check.due("a private method of the name " + name, shared.contains(name), false);
        }
        for (Class<?> inside : SharedConsole.class.getDeclaredClasses()) {
            int modifiers = inside.getModifiers();
            Check.due(inside + " is static", Modifier.isStatic(modifiers), true);
            Check.due(inside + " is hidden", Modifier.isPublic(modifiers) || Modifier.isProtected(modifiers), false);
        }
        Check.end();
    }
}
