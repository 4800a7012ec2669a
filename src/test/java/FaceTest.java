import java.lang.reflect.Constructor;
import java.lang.reflect.Field;
import java.lang.reflect.Method;
import java.lang.reflect.Modifier;
import java.util.Arrays;
import java.util.TreeSet;

/** The public face is the document's and nothing more; no private method bears the name of a public one. */
final class FaceTest {
    private static final String[] FACE = {
        "boolean alike(int,int)", "boolean unit(int)", "boolean units(int)", "int arc(int,int,int)", "int best(int,int)",
        "int cell(int,int)", "int count(int)", "int delay(int,int,int,int,boolean)", "int family(int,int)",
        "int letter(int,int,int)", "int order(int,int,int)", "int power(int,int)", "int read()",
        "int sense(int,int,int)", "long truth(int,int)",
    };

    public static void main(String[] args) {
        Checks checks = new Checks();
        Class<CellLibrary> face = CellLibrary.class;
        checks.due("public final", face.getModifiers(), Modifier.PUBLIC | Modifier.FINAL);
        TreeSet<String> found = new TreeSet<>();
        TreeSet<String> publicNames = new TreeSet<>();
        for (Method method : face.getDeclaredMethods()) {
            if (!Modifier.isPrivate(method.getModifiers())) {
                found.add(described(method));
                publicNames.add(method.getName());
                checks.due(method + " is public alone", method.getModifiers(), Modifier.PUBLIC);
                checks.due(method + " names what it throws", Arrays.equals(method.getExceptionTypes(), thrownBy(method.getName())), true);
            }
        }
        System.out.print(found.equals(new TreeSet<>(Arrays.asList(FACE))) ? "" : "the face is " + found + "\n");
        checks.due("the face", found.equals(new TreeSet<>(Arrays.asList(FACE))), true);
        checks.due("constructors", face.getDeclaredConstructors().length, 1);
        for (Constructor<?> constructor : face.getDeclaredConstructors()) {
            checks.due(constructor.toString(), constructor.getModifiers() == Modifier.PUBLIC
                && constructor.getParameterCount() == 0, true);
            checks.due(constructor + " names no exception", constructor.getExceptionTypes().length, 0);
        }
        for (Field field : face.getDeclaredFields()) {
            checks.due(field.toString(), Modifier.isPrivate(field.getModifiers()) || isNone(field), true);
        }
        checks.due("NONE", CellLibrary.NONE, -1);
        TreeSet<String> otherNames = new TreeSet<>();
        for (Method method : face.getDeclaredMethods()) {
            if (Modifier.isPrivate(method.getModifiers())) {
                otherNames.add(method.getName());
            }
        }
        for (Class<?> inside : face.getDeclaredClasses()) {
            checks.due(inside + " is static", Modifier.isStatic(inside.getModifiers()), true);
            for (Method method : inside.getDeclaredMethods()) {
                otherNames.add(method.getName());
            }
        }
        otherNames.retainAll(publicNames);
        checks.due("names used twice " + otherNames, otherNames.isEmpty(), true);
        checks.finish();
    }

    private static boolean isNone(Field field) {
        return field.getName().equals("NONE") && field.getType() == int.class
            && field.getModifiers() == (Modifier.PUBLIC | Modifier.STATIC | Modifier.FINAL);
    }

    private static Class<?>[] thrownBy(String name) {
        switch (name) {
            case "unit":
            case "units":
            case "read":
                return new Class<?>[] {};
            case "delay":
            case "best":
                return new Class<?>[] {IndexOutOfBoundsException.class, IllegalArgumentException.class};
            default:
                return new Class<?>[] {IndexOutOfBoundsException.class};
        }
    }

    private static String described(Method method) {
        StringBuilder text = new StringBuilder();
        text.append(method.getReturnType()).append(' ').append(method.getName()).append('(');
        for (Class<?> type : method.getParameterTypes()) {
            text.append(text.charAt(text.length() - 1) == '(' ? "" : ",").append(type);
        }
        return text.append(')').toString();
    }
}
