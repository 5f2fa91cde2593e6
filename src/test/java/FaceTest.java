import java.lang.reflect.Constructor;
import java.lang.reflect.Method;
import java.lang.reflect.Modifier;
import java.util.Arrays;
import java.util.Set;
import java.util.TreeSet;

/** The public face of the document, and nothing but it (LANGUAGE.md, rules 1 and 5). */
final class FaceTest {
    private static final String[] FACE = {
        "append(int) IllegalArgumentException IllegalStateException", "clearText()", "errorPosition()",
        "load() IllegalStateException", "about(int) IllegalArgumentException",
        "space(int,int) IndexOutOfBoundsException IllegalArgumentException",
        "loans(int,int) IndexOutOfBoundsException", "time(int,int) IndexOutOfBoundsException",
        "oldest(int,int) IndexOutOfBoundsException IllegalArgumentException",
        "make(int,int) IllegalArgumentException IllegalStateException",
        "write(int,int) IndexOutOfBoundsException",
        "trim(int,int) IndexOutOfBoundsException IllegalStateException",
        "setFloor(int,int) IndexOutOfBoundsException IllegalArgumentException IllegalStateException",
        "setCeiling(int,int) IndexOutOfBoundsException IllegalArgumentException",
        "undo() IllegalStateException", "would(int,int) IndexOutOfBoundsException",
        "room(int) IndexOutOfBoundsException",
        "harm(int,int) IndexOutOfBoundsException IllegalArgumentException",
        "victim(int) IndexOutOfBoundsException", "noisy()", "mostFloor(int) IndexOutOfBoundsException",
        "leastFloor(int) IndexOutOfBoundsException", "runScript(int,long) IllegalArgumentException",
        "simulate(long,int) IllegalArgumentException", "save(int) IndexOutOfBoundsException",
        "restore(int) IndexOutOfBoundsException IllegalStateException"};

    public static void main(String[] args) {
        Class<?> face = LentRoom.class;
        Check.same("the class", Modifier.toString(face.getModifiers()), "public final");
        Set<String> open = new TreeSet<>();
        Set<String> names = new TreeSet<>();
        for (Method method : face.getDeclaredMethods()) {
            if (Modifier.isPrivate(method.getModifiers())) {
                continue;
            }
            Check.same("result of " + method, method.getReturnType().getName(), "int");
            names.add(method.getName());
            open.add(told(method));
        }
        Check.same("the methods", open.toString(), new TreeSet<>(Arrays.asList(FACE)).toString());
        for (Constructor<?> made : face.getDeclaredConstructors()) {
            Check.same("the constructor", made.toString(), "public LentRoom()");
        }
        fields(face);
        for (Class<?> inside : face.getDeclaredClasses()) {
            Check.same(inside + " is static", String.valueOf(Modifier.isStatic(inside.getModifiers())), "true");
            for (Method method : inside.getDeclaredMethods()) {
                Check.same(method + " has a name of the face", String.valueOf(names.contains(method.getName())), "false");
            }
        }
        Check.finish();
    }

    private static String told(Method method) {
        StringBuilder all = new StringBuilder(method.getName()).append('(');
        for (Class<?> type : method.getParameterTypes()) {
            all.append(all.charAt(all.length() - 1) == '(' ? "" : ",").append(type.getName());
        }
        all.append(')');
        for (Class<?> type : method.getExceptionTypes()) {
            all.append(' ').append(type.getSimpleName());
        }
        return all.toString();
    }

    private static void fields(Class<?> face) {
        Set<String> open = new TreeSet<>();
        for (var field : face.getDeclaredFields()) {
            if (!Modifier.isPrivate(field.getModifiers())) {
                open.add(field.toString());
            }
        }
        Check.same("the constants", open.toString(), "[public static final int LentRoom.NONE]");
    }
}
