import java.lang.reflect.Constructor;
import java.lang.reflect.Field;
import java.lang.reflect.Method;
import java.lang.reflect.Modifier;
import java.util.List;
import java.util.TreeSet;

/** The class has the document's face, with its throws clauses, and nothing else that is not private. */
public final class FaceTest {
    private static final String ARGUMENT = "IllegalArgumentException";
    private static final String STATE = "IllegalStateException";
    private static final String INDEX = "IndexOutOfBoundsException";

    /** Each method with its throws clause: the exceptions in the document's order. */
    private static final String[] METHODS = {
        "int add(int) " + ARGUMENT + " " + STATE,
        "int change(int,int) " + INDEX + " " + ARGUMENT,
        "int wipe(int) " + INDEX,
        "int fix(int,int) " + INDEX + " " + STATE,
        "int loosen(int) " + INDEX,
        "int draw(int) " + INDEX,
        "int flatten() " + STATE,
        "int append(int) " + ARGUMENT + " " + STATE,
        "int clearBuffer()",
        "int firstError()",
        "int load() " + ARGUMENT,
        "int write() " + STATE,
        "int keep(int) " + ARGUMENT,
        "int goBack(int) " + ARGUMENT + " " + STATE,
        "int undo() " + STATE,
        "int wordOf(int,int) " + INDEX + " " + ARGUMENT,
        "int readingOf(int,int) " + INDEX + " " + ARGUMENT,
        "int count(int) " + ARGUMENT,
        "int part(int,int,int) " + INDEX + " " + ARGUMENT,
        "int ifFixed(int,int) " + INDEX,
        "int question()",
        "int next()",
        "double sureShare()",
        "long digest()",
    };

    private static final String FIELDS = "[int NONE]";
    private static final String CONSTRUCTORS = "[SlantSlate()]";

    public static void main(String[] args) {
        Class<?> type = SlantSlate.class;
        Check.same("public and final", true,
            Modifier.isPublic(type.getModifiers()) && Modifier.isFinal(type.getModifiers()));
        checkMethods(type);
        checkConstructors(type);
        checkFields(type);
        checkNestedClasses(type);
        Check.end("FaceTest");
    }

    private static void checkMethods(Class<?> type) {
        TreeSet<String> told = new TreeSet<>();
        TreeSet<String> openNames = new TreeSet<>();
        TreeSet<String> hiddenNames = new TreeSet<>();
        for (Method method : type.getDeclaredMethods()) {
            if (Modifier.isPrivate(method.getModifiers())) {
                hiddenNames.add(method.getName());
                continue;
            }
            openNames.add(method.getName());
            told.add(tell(method));
            Check.same(method + " is public", true, Modifier.isPublic(method.getModifiers()));
            Check.same(method + " belongs to objects", false, Modifier.isStatic(method.getModifiers()));
        }
        for (String due : METHODS) {
            Check.same("the face has " + due, true, told.contains(due));
        }
        Check.same("the methods of the face", new TreeSet<>(List.of(METHODS)).toString(), told.toString());
        for (String name : openNames) {
            Check.same("no private method is named " + name, false, hiddenNames.contains(name));
        }
    }

    private static void checkConstructors(Class<?> type) {
        TreeSet<String> told = new TreeSet<>();
        for (Constructor<?> constructor : type.getDeclaredConstructors()) {
            told.add(type.getName() + types(constructor.getParameterTypes())
                + exceptions(constructor.getExceptionTypes()));
            Check.same("public constructor", true, Modifier.isPublic(constructor.getModifiers()));
        }
        Check.same("the constructors of the face", CONSTRUCTORS, told.toString());
    }

    private static void checkFields(Class<?> type) {
        TreeSet<String> told = new TreeSet<>();
        for (Field field : type.getDeclaredFields()) {
            if (!Modifier.isPrivate(field.getModifiers())) {
                told.add(field.getType() + " " + field.getName());
                Check.same(field + " is a constant", true, Modifier.isPublic(field.getModifiers())
                    && Modifier.isStatic(field.getModifiers()) && Modifier.isFinal(field.getModifiers()));
            }
        }
        Check.same("the constants of the face", FIELDS, told.toString());
        Check.same("NONE", -1, SlantSlate.NONE);
    }

    private static void checkNestedClasses(Class<?> type) {
        for (Class<?> nested : type.getDeclaredClasses()) {
            int modifiers = nested.getModifiers();
            Check.same(nested + " is static, and not of the face", true, Modifier.isStatic(modifiers)
                && !Modifier.isPublic(modifiers) && !Modifier.isProtected(modifiers));
        }
    }

    private static String tell(Method method) {
        return method.getReturnType() + " " + method.getName() + types(method.getParameterTypes())
            + exceptions(method.getExceptionTypes());
    }

    private static String exceptions(Class<?>[] types) {
        StringBuilder text = new StringBuilder();
        for (Class<?> type : types) {
            text.append(" ").append(type.getSimpleName());
        }
        return text.toString();
    }

    private static String types(Class<?>[] types) {
        StringBuilder text = new StringBuilder("(");
        for (Class<?> type : types) {
            text.append(text.length() > 1 ? "," : "").append(type);
        }
        return text.append(")").toString();
    }
}
