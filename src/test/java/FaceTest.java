import java.lang.reflect.Constructor;
import java.lang.reflect.Field;
import java.lang.reflect.Method;
import java.lang.reflect.Modifier;
import java.util.TreeSet;

/** The class has the document's face, and nothing else that is not private. */
public final class FaceTest {
    private static final String FACE = "[NONE int, SlantSlate(), add(int)int, append(int)int, change(int,int)int, "
        + "clearBuffer()int, count(int)int, digest()long, draw(int)int, firstError()int, fix(int,int)int, "
        + "flatten()int, goBack(int)int, ifFixed(int,int)int, keep(int)int, load()int, loosen(int)int, next()int, "
        + "part(int,int,int)int, question()int, readingOf(int,int)int, sureShare()double, undo()int, wipe(int)int, "
        + "wordOf(int,int)int, write()int]";

    public static void main(String[] args) {
        Class<?> type = SlantSlate.class;
        TreeSet<String> open = new TreeSet<>();
        TreeSet<String> hidden = new TreeSet<>();
        for (Method method : type.getDeclaredMethods()) {
            if (Modifier.isPrivate(method.getModifiers())) {
                hidden.add(method.getName());
            } else {
                open.add(method.getName() + types(method.getParameterTypes()) + method.getReturnType());
                Check.same(method + " is public", true, Modifier.isPublic(method.getModifiers()));
                Check.same(method + " belongs to objects", false, Modifier.isStatic(method.getModifiers()));
            }
        }
        for (Constructor<?> constructor : type.getDeclaredConstructors()) {
            open.add(type.getName() + types(constructor.getParameterTypes()));
            Check.same("public constructor", true, Modifier.isPublic(constructor.getModifiers()));
        }
        for (Field field : type.getDeclaredFields()) {
            if (!Modifier.isPrivate(field.getModifiers())) {
                open.add(field.getName() + " " + field.getType());
                Check.same(field + " is a constant", true,
                    Modifier.isStatic(field.getModifiers()) && Modifier.isFinal(field.getModifiers()));
            }
        }
        Check.same("the face", FACE, open.toString());
        Check.same("public and final", true,
            Modifier.isPublic(type.getModifiers()) && Modifier.isFinal(type.getModifiers()));
        for (Method method : type.getDeclaredMethods()) {
            if (Modifier.isPublic(method.getModifiers())) {
                Check.same("no private method is named " + method.getName(), false, hidden.contains(method.getName()));
            }
        }
        Check.same("NONE", -1, SlantSlate.NONE);
        Check.end("FaceTest");
    }

    private static String types(Class<?>[] types) {
        StringBuilder text = new StringBuilder("(");
        for (Class<?> type : types) {
            text.append(text.length() > 1 ? "," : "").append(type);
        }
        return text.append(")").toString();
    }
}
