import java.lang.reflect.Constructor;
import java.lang.reflect.Field;
import java.lang.reflect.Method;
import java.lang.reflect.Modifier;
import java.util.Arrays;
import java.util.Set;
import java.util.TreeSet;

/** The class has the document's public face, with the exceptions that it declares, and no other member outside. */
public final class ClipBureauFace {
    private static final String[] FACE = {
        "int setStem(int, int) IndexOutOfBoundsException",
        "int print() IllegalStateException",
        "int write(int, int) IndexOutOfBoundsException IllegalStateException",
        "int strike(int, int) IndexOutOfBoundsException",
        "int client(int) IllegalArgumentException IllegalStateException",
        "int want(int, int) IndexOutOfBoundsException IllegalStateException",
        "int drop(int, int) IndexOutOfBoundsException IllegalStateException",
        "int setBar(int, int) IndexOutOfBoundsException IllegalArgumentException",
        "int pay(int, int) IndexOutOfBoundsException IllegalArgumentException",
        "int send(int) IndexOutOfBoundsException",
        "int pass(int) IllegalArgumentException",
        "int told(int, int) IndexOutOfBoundsException",
        "int word(int, int) IndexOutOfBoundsException",
        "int about(int, int) IndexOutOfBoundsException",
        "int stem(int, int) IndexOutOfBoundsException",
        "int count(int) IndexOutOfBoundsException",
        "int rarity(int) IndexOutOfBoundsException",
        "int score(int, int) IndexOutOfBoundsException",
        "int fit(int, int) IndexOutOfBoundsException",
        "int alike(int, int) IndexOutOfBoundsException",
        "int advise(int) IndexOutOfBoundsException",
        "int foresee(int, int) IllegalArgumentException IndexOutOfBoundsException",
        "int until()",
        "double mean()",
        "long digest()"};

    public static void main(String[] args) {
        Class<?> c = ClipBureau.class;
        Set<String> publics = new TreeSet<>();
        Set<String> names = new TreeSet<>();
        Set<String> wrong = new TreeSet<>();
        for (Method m : c.getDeclaredMethods()) {
            if (Modifier.isPublic(m.getModifiers()) && !Modifier.isStatic(m.getModifiers())) {
                publics.add(text(m));
                names.add(m.getName());
            } else if (!Modifier.isPrivate(m.getModifiers()) && !m.isSynthetic()) {
                wrong.add("not private: " + m);
            }
        }
        for (Method m : c.getDeclaredMethods()) {
            if (Modifier.isPrivate(m.getModifiers()) && names.contains(m.getName())) {
                wrong.add("private, with a public one's name: " + m);
            }
        }
        for (Field f : c.getDeclaredFields()) {
            if (!Modifier.isPrivate(f.getModifiers())) {
                wrong.add("not private: " + f);
            }
        }
        Constructor<?>[] made = c.getDeclaredConstructors();
        if (made.length != 1 || made[0].getParameterCount() != 0 || !Modifier.isPublic(made[0].getModifiers())) {
            wrong.add("not the one constructor: " + Arrays.toString(made));
        }
        if (c.getModifiers() != (Modifier.PUBLIC | Modifier.FINAL)) {
            wrong.add("the class is not public and final");
        }
        Set<String> due = new TreeSet<>(Arrays.asList(FACE));
        if (!publics.equals(due)) {
            wrong.add("public is " + publics + ", due is " + due);
        }
        for (String line : wrong) {
            System.out.println(line);
        }
        System.out.println(wrong.isEmpty() ? "the face is as due" : "the face is not as due");
        if (!wrong.isEmpty()) {
            System.exit(1);
        }
    }

    private static String text(Method m) {
        StringBuilder s = new StringBuilder(m.getReturnType() + " " + m.getName() + "(");
        for (int i = 0; i < m.getParameterCount(); i++) {
            s.append(i == 0 ? "" : ", ").append(m.getParameterTypes()[i]);
        }
        s.append(")");
        for (Class<?> e : m.getExceptionTypes()) {
            s.append(" ").append(e.getSimpleName());
        }
        return s.toString();
    }
}
