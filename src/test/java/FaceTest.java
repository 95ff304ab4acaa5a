import java.lang.reflect.Constructor;
import java.lang.reflect.Field;
import java.lang.reflect.Method;
import java.lang.reflect.Modifier;
import java.util.TreeSet;

/** The face is the document's, and nothing else is seen from outside. */
public final class FaceTest {
    private static final String[] FACE = {
        "boolean pardon(int)", "double share()", "int advise(int,int)", "int baker(int,int)",
        "int count(int)", "int deal(int,int)", "int foresee(int,int)", "int lasts()",
        "int open(int,int)", "int pass(int)", "int setGate(int,int)", "int setPeople(int)",
        "int smoke(int)", "int store(int,int)", "int swear(int,int,int,int)", "int weigh(int)",
        "int whose(int)", "long digest()"};

    public static void main(String[] args) {
        TreeSet<String> seen = new TreeSet<>();
        TreeSet<String> hidden = new TreeSet<>();
        for (Method m : LoafMarks.class.getDeclaredMethods()) {
            (Modifier.isPrivate(m.getModifiers()) ? hidden : seen).add(signature(m));
            if (!Modifier.isPrivate(m.getModifiers())) {
                Check.same(m.getName() + " is public", Modifier.isPublic(m.getModifiers()), true);
            }
        }
        Check.same("the methods", String.join("\n", seen), String.join("\n", FACE));
        for (String h : hidden) {
            for (String s : seen) {
                Check.same(h + " bears the name of " + s, name(h).equals(name(s)), false);
            }
        }
        Check.same("constructors", LoafMarks.class.getDeclaredConstructors().length, 1);
        for (Constructor<?> c : LoafMarks.class.getDeclaredConstructors()) {
            Check.same("the constructor's parameters", c.getParameterCount(), 0);
            Check.same("the constructor is public", Modifier.isPublic(c.getModifiers()), true);
        }
        for (Field f : LoafMarks.class.getDeclaredFields()) {
            Check.same(f.getName() + " is private", Modifier.isPrivate(f.getModifiers()), true);
        }
        Check.same("the class is final", Modifier.isFinal(LoafMarks.class.getModifiers()), true);
        Check.end();
    }

    private static String signature(Method m) {
        StringBuilder text = new StringBuilder(m.getReturnType().getName());
        text.append(' ').append(m.getName()).append('(');
        for (int i = 0; i < m.getParameterCount(); i++) {
            text.append(i == 0 ? "" : ",").append(m.getParameterTypes()[i].getName());
        }
        return text.append(')').toString();
    }

    private static String name(String signature) {
        return signature.substring(signature.indexOf(' ') + 1, signature.indexOf('('));
    }
}
