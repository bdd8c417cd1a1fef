import java.lang.reflect.Constructor;
import java.lang.reflect.Field;
import java.lang.reflect.Method;
import java.lang.reflect.Modifier;
import java.util.Arrays;
import java.util.TreeSet;

/** The public face is the one of the document, and nothing else shows. */
public final class FaceTest {
    private static final String[] DUE = {
        "int setSeed(int) throws IllegalStateException",
        "char ground(int) throws IndexOutOfBoundsException",
        "int addUnit(int,char,int) throws IndexOutOfBoundsException,IllegalArgumentException,"
            + "UnsupportedOperationException,IllegalStateException",
        "int order(int,int) throws IndexOutOfBoundsException,IllegalArgumentException,"
            + "UnsupportedOperationException",
        "int turn() throws IllegalStateException",
        "int done()",
        "int cellOf(int) throws IndexOutOfBoundsException",
        "int unitOn(int) throws IndexOutOfBoundsException",
        "boolean sees(int,int) throws IndexOutOfBoundsException",
        "int seen(int) throws IndexOutOfBoundsException",
        "boolean setTreaty(int,int,boolean) throws IndexOutOfBoundsException,IllegalArgumentException",
        "int sightings(int) throws IndexOutOfBoundsException",
        "int sighting(int,int,char) throws IndexOutOfBoundsException,IllegalArgumentException",
        "int age(int,int) throws IndexOutOfBoundsException,NoSuchElementException",
        "int lastSeen(int,int) throws IndexOutOfBoundsException,NoSuchElementException",
        "int save()",
        "int blocks(int) throws IndexOutOfBoundsException,NoSuchElementException",
        "boolean breakBlock(int,int) throws IndexOutOfBoundsException,NoSuchElementException",
        "int savedAt(int,int) throws IndexOutOfBoundsException,NoSuchElementException,"
            + "UnsupportedOperationException",
        "int repair(int) throws IndexOutOfBoundsException,NoSuchElementException",
        "int load(int) throws IndexOutOfBoundsException,NoSuchElementException,"
            + "UnsupportedOperationException",
        "int allies(int) throws IndexOutOfBoundsException,NoSuchElementException",
        "long checksum()",
        "float livingShare() throws ArithmeticException",
        "double meanAge() throws ArithmeticException",
        "boolean isSound()",
    };

    public static void main(String[] args) {
        Check check = new Check("FaceTest");
        check.same("the class", Modifier.toString(SeedBattle.class.getModifiers()), "public final");
        TreeSet<String> shown = new TreeSet<>();
        TreeSet<String> hidden = new TreeSet<>();
        for (Method method : SeedBattle.class.getDeclaredMethods()) {
            if (Modifier.isPrivate(method.getModifiers())) {
                hidden.add(method.getName());
            } else {
                shown.add(sign(method));
                check.same(method + " bears", Modifier.toString(method.getModifiers()), "public");
            }
        }
        check.same("the methods", shown, new TreeSet<>(Arrays.asList(DUE)));
        for (String due : DUE) {
            String name = due.substring(due.indexOf(' ') + 1, due.indexOf('('));
            check.same("a private method named " + name, hidden.contains(name), false);
        }
        checkConstructor(check);
        for (Field field : SeedBattle.class.getDeclaredFields()) {
            int signs = field.getModifiers();
            check.same(field + " is private", Modifier.isPrivate(signs), true);
            check.same(field + " is final, if static", !Modifier.isStatic(signs) || Modifier.isFinal(signs), true);
        }
        for (Class<?> inner : SeedBattle.class.getDeclaredClasses()) {
            int signs = inner.getModifiers();
            check.same(inner + " shows", Modifier.isPublic(signs) || Modifier.isProtected(signs), false);
            check.same(inner + " is static", Modifier.isStatic(signs), true);
        }
        check.end();
    }

    private static void checkConstructor(Check check) {
        Constructor<?>[] all = SeedBattle.class.getDeclaredConstructors();
        check.same("the constructors", all.length, 1);
        check.same("the constructor", all[0].toString(), "public SeedBattle()");
    }

    private static String sign(Method method) {
        StringBuilder text = new StringBuilder(method.getReturnType().getSimpleName());
        text.append(' ').append(method.getName()).append('(').append(names(method.getParameterTypes())).append(')');
        if (method.getExceptionTypes().length > 0) {
            text.append(" throws ").append(names(method.getExceptionTypes()));
        }
        return text.toString();
    }

    private static String names(Class<?>[] types) {
        StringBuilder text = new StringBuilder();
        for (Class<?> type : types) {
            text.append(text.length() == 0 ? "" : ",").append(type.getSimpleName());
        }
        return text.toString();
    }
}
