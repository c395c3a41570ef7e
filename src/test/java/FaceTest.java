import java.lang.reflect.Constructor;
import java.lang.reflect.Field;
import java.lang.reflect.Method;
import java.lang.reflect.Modifier;
import java.util.Arrays;
import java.util.NoSuchElementException;
import java.util.TreeSet;

/** The public face: every constant, the constructor, every method, and nothing else that is not private. */
final class FaceTest {
    /** Behind each: N, it throws NoSuchElementException; I, it throws IllegalArgumentException. */
    private static final String[] METHODS = {
        "int comes(int) N", "int dog(int,int,int)", "long kin(int,int) N", "long inbred(int) N",
        "int feed(int,int,int,int,int)", "int rules(int) I", "int fault()", "int days(int) I",
        "int trial(int,int,int) N", "int run(int,int,int,int,int) N", "int card(int,int) N I",
        "int told(int,int,int) N I", "int took(int,int,int) N I", "int protest(int) N",
        "boolean decide(int,int,int) N", "int ladder(int,int,int,int) N I", "int sum(int,int,int,int) N I",
        "void list()", "int enters(int) N", "int draw(long,int) I", "int drawn(int) N", "int packets(int,int,int) I",
        "long scale(int,int,int) N I", "int luck(int,int,int) N I", "int count(int) N",
    };

    public static void main(String[] args) {
        Check.due("NONE", DogTrials.NONE, -1);
        Check.due("final", Modifier.isFinal(DogTrials.class.getModifiers()) ? 1 : 0, 1);
        Check.due("public", Modifier.isPublic(DogTrials.class.getModifiers()) ? 1 : 0, 1);
        TreeSet<String> due = new TreeSet<>(Arrays.asList(METHODS));
        TreeSet<String> got = new TreeSet<>();
        for (Method m : DogTrials.class.getDeclaredMethods()) {
            if (!Modifier.isPrivate(m.getModifiers())) {
                Check.due(m + " is public", Modifier.isPublic(m.getModifiers()) ? 1 : 0, 1);
                got.add(signature(m));
            }
        }
        if (!got.equals(due)) {
            System.out.println("methods: " + got + ", due: " + due);
        }
        Check.due("methods as due", got.equals(due) ? 1 : 0, 1);
        int constants = 0;
        for (Field f : DogTrials.class.getDeclaredFields()) {
            constants += Modifier.isPrivate(f.getModifiers()) ? 0 : 1;
        }
        Check.due("fields that are not private", constants, 1);
        Constructor<?>[] made = DogTrials.class.getDeclaredConstructors();
        Check.due("constructors", made.length, 1);
        Check.due("its parameters", made[0].getParameterCount(), 0);
        Check.end();
    }

    private static String signature(Method m) {
        StringBuilder text = new StringBuilder();
        text.append(m.getReturnType()).append(' ').append(m.getName()).append('(');
        for (Class<?> p : m.getParameterTypes()) {
            text.append(text.charAt(text.length() - 1) == '(' ? "" : ",").append(p);
        }
        text.append(')');
        for (Class<?> e : m.getExceptionTypes()) {
            text.append(e == NoSuchElementException.class ? " N" : e == IllegalArgumentException.class ? " I" : " " + e);
        }
        return text.toString();
    }
}
