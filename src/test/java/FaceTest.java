import java.lang.reflect.Constructor;
import java.lang.reflect.Field;
import java.lang.reflect.Method;
import java.lang.reflect.Modifier;
import java.util.TreeSet;

/** The face is the document's, and nothing else is seen from outside. */
public final class FaceTest {
    private static final String[] FACE = {
        "boolean pardon(int) throws IndexOutOfBoundsException",
        "double share()",
        "int advise(int,int) throws IndexOutOfBoundsException IllegalArgumentException",
        "int baker(int,int) throws IndexOutOfBoundsException",
        "int count(int) throws IndexOutOfBoundsException",
        "int deal(int,int) throws IndexOutOfBoundsException IllegalArgumentException",
        "int foresee(int,int) throws IllegalArgumentException IndexOutOfBoundsException",
        "int lasts()",
        "int open(int,int) throws IllegalArgumentException IllegalStateException",
        "int pass(int) throws IllegalArgumentException",
        "int setGate(int,int) throws IndexOutOfBoundsException IllegalArgumentException",
        "int setPeople(int) throws IllegalArgumentException",
        "int smoke(int) throws IndexOutOfBoundsException",
        "int store(int,int) throws IndexOutOfBoundsException",
        "int swear(int,int,int,int) throws IndexOutOfBoundsException IllegalArgumentException IllegalStateException",
        "int weigh(int) throws IndexOutOfBoundsException IllegalStateException",
        "int whose(int) throws IllegalArgumentException",
        "long digest()"};

    public static void main(String[] args) {
        TreeSet<String> seen = new TreeSet<>();
        TreeSet<String> hidden = new TreeSet<>();
        for (Method m : LoafMarks.class.getDeclaredMethods()) {
            (Modifier.isPrivate(m.getModifiers()) ? hidden : seen).add(signature(m));
            if (!Modifier.isPrivate(m.getModifiers())) {
                Check.same(m.getName() + " is public", Modifier.isPublic(m.getModifiers()), true);
            }
        }
        Check.same("the methods", String.join("\n", seen), String.join("\n", FACE));
        for (String h : hidden) {
            for (String s : seen) {
                Check.same(h + " bears the name of " + s, name(h).equals(name(s)), false);
            }
        }
        Check.same("constructors", LoafMarks.class.getDeclaredConstructors().length, 1);
        for (Constructor<?> c : LoafMarks.class.getDeclaredConstructors()) {
            Check.same("the constructor's parameters", c.getParameterCount(), 0);
            Check.same("the constructor is public", Modifier.isPublic(c.getModifiers()), true);
        }
        for (Field f : LoafMarks.class.getDeclaredFields()) {
            Check.same(f.getName() + " is private", Modifier.isPrivate(f.getModifiers()), true);
        }
        Check.same("the class is final", Modifier.isFinal(LoafMarks.class.getModifiers()), true);
        Check.end();
    }

    private static String signature(Method m) {
        StringBuilder text = new StringBuilder(m.getReturnType().getName());
        text.append(' ').append(m.getName()).append('(');
        for (int i = 0; i < m.getParameterCount(); i++) {
            text.append(i == 0 ? "" : ",").append(m.getParameterTypes()[i].getName());
        }
        text.append(')');
        for (int i = 0; i < m.getExceptionTypes().length; i++) {
            text.append(i == 0 ? " throws " : " ").append(m.getExceptionTypes()[i].getSimpleName());
        }
        return text.toString();
    }

    private static String name(String signature) {
        return signature.substring(signature.indexOf(' ') + 1, signature.indexOf('('));
    }
}
