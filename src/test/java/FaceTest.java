import java.lang.reflect.Constructor;
import java.lang.reflect.Field;
import java.lang.reflect.Method;
import java.lang.reflect.Modifier;
import java.util.Arrays;
import java.util.Set;
import java.util.TreeSet;

/** The public face is that of the document, and nothing more. */
public final class FaceTest {
    private static final String[] DUE = {
        "int come(int) throws IllegalArgumentException IllegalStateException",
        "int setWay(int int) throws IndexOutOfBoundsException",
        "int setFork(int) throws IllegalArgumentException",
        "int bring(int) throws IllegalArgumentException IllegalStateException",
        "int swap(int int) throws IndexOutOfBoundsException IllegalArgumentException",
        "int wake(int) throws IndexOutOfBoundsException IllegalStateException",
        "int lad(int int) throws IndexOutOfBoundsException",
        "int cart(int int) throws IndexOutOfBoundsException",
        "int load(int int) throws IndexOutOfBoundsException",
        "int count(int) throws IndexOutOfBoundsException",
        "int victim(int) throws IndexOutOfBoundsException",
        "int thief() throws",
        "int pass(int) throws IllegalArgumentException",
        "int until(int) throws IndexOutOfBoundsException",
        "int foresee(int int) throws IllegalArgumentException IndexOutOfBoundsException",
        "int advise(int) throws IllegalArgumentException",
        "double mean() throws",
        "long digest() throws",
    };

    public static void main(String[] args) {
        Set<String> told = new TreeSet<>();
        Set<String> hidden = new TreeSet<>();
        for (Method method : HayThieves.class.getDeclaredMethods()) {
            boolean isPrivate = Modifier.isPrivate(method.getModifiers());
            (isPrivate ? hidden : told).add(isPrivate ? method.getName() : text(method));
        }
        Check.same("the methods", told, new TreeSet<>(Arrays.asList(DUE)));
        for (String line : DUE) {
            String name = line.substring(line.indexOf(' ') + 1, line.indexOf('('));
            Check.same("a private method named " + name, hidden.contains(name), false);
        }
        for (Field field : HayThieves.class.getDeclaredFields()) {
            Check.same("private " + field.getName(), Modifier.isPrivate(field.getModifiers()), true);
        }
        Constructor<?>[] constructors = HayThieves.class.getDeclaredConstructors();
        Check.is("constructors", constructors.length, 1);
        Check.is("public", constructors[0].getModifiers(), Modifier.PUBLIC);
        Check.is("its parameters", constructors[0].getParameterCount(), 0);
        Check.is("the class", HayThieves.class.getModifiers(), Modifier.PUBLIC | Modifier.FINAL);
        Check.end();
    }

    private static String text(Method method) {
        StringBuilder text = new StringBuilder(Modifier.isPublic(method.getModifiers()) ? "" : "hidden ");
        text.append(method.getReturnType().getSimpleName()).append(' ').append(method.getName());
        text.append(names(method.getParameterTypes(), "(")).append(") throws");
        for (Class<?> type : method.getExceptionTypes()) {
            text.append(' ').append(type.getSimpleName());
        }
        return text.toString();
    }

    private static String names(Class<?>[] types, String start) {
        StringBuilder text = new StringBuilder(start);
        for (int i = 0; i < types.length; i++) {
            text.append(i > 0 ? " " : "").append(types[i].getSimpleName());
        }
        return text.toString();
    }
}
