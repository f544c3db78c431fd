import java.lang.reflect.Constructor;
import java.lang.reflect.Field;
import java.lang.reflect.Method;
import java.lang.reflect.Modifier;
import java.util.Arrays;
import java.util.HashSet;
import java.util.NoSuchElementException;
import java.util.Set;
import java.util.TreeSet;

/** The public face is the document's, and no other member of the class can be seen from outside. */
public final class FaceTest {
    private static final String[] FACE = {
        "int post(int)", "int hand(int,int,int,int)", "int away(int,int,int)",
        "int piece(int,int,int,int,int,int,int,int,int)", "int sign(int)", "boolean end(int)",
        "int rule(int,int)", "int step(int)", "int of(int,int)", "int at(int,int)", "int may(int,int)",
        "int order(int,int)", "int goes(int)", "int count(int)", "int correct(int,int,int,int,int)",
        "boolean undo(int,int)", "int as(int)", "int fault(int)", "int faults(int,int)", "int pay(int)",
        "int earns(int,int)", "boolean slips(int,int,int)", "int left(int,int)", "int quick(int,int)",
        "int claims(int,int)", "int plan(int,int)", "int lateness(int,int)", "int tried(int,int)",
        "int ill(int,int)", "int row(int)"};

    /** The calls that the document declares with "throws NoSuchElementException". */
    private static final Set<String> THROWING = Set.of("of", "order", "pay", "earns", "ill", "row");

    private static int wrong = 0;

    private static void due(String what, boolean holds) {
        if (!holds) {
            wrong++;
            System.out.println("not so: " + what);
        }
    }

    public static void main(String[] args) {
        Class<?> pool = TypingPool.class;
        due("public and final", Modifier.isPublic(pool.getModifiers()) && Modifier.isFinal(pool.getModifiers()));
        Set<String> seen = new TreeSet<>();
        Set<String> publicNames = new HashSet<>();
        for (Method method : pool.getDeclaredMethods()) {
            if (Modifier.isPrivate(method.getModifiers())) {
                continue;
            }
            due(method + " is public and no static one",
                Modifier.isPublic(method.getModifiers()) && !Modifier.isStatic(method.getModifiers()));
            publicNames.add(method.getName());
            Class<?>[] declared = method.getExceptionTypes();
            due(method + " declares what it throws", THROWING.contains(method.getName())
                ? declared.length == 1 && declared[0] == NoSuchElementException.class : declared.length == 0);
            String parameters = Arrays.toString(method.getParameterTypes());
            seen.add(method.getReturnType() + " " + method.getName() + "("
                + parameters.substring(1, parameters.length() - 1).replace(" ", "") + ")");
        }
        due("methods " + seen, seen.equals(new TreeSet<>(Arrays.asList(FACE))));
        for (Field field : pool.getDeclaredFields()) {
            due(field + " is private, or NONE",
                Modifier.isPrivate(field.getModifiers()) || field.getName().equals("NONE"));
        }
        due("NONE", TypingPool.NONE == -1);
        Constructor<?>[] constructors = pool.getDeclaredConstructors();
        due("one constructor", constructors.length == 1 && constructors[0].getParameterCount() == 0
            && Modifier.isPublic(constructors[0].getModifiers()));
        for (Class<?> inside : pool.getDeclaredClasses()) {
            due(inside + " is static", Modifier.isStatic(inside.getModifiers()));
            for (Method method : inside.getDeclaredMethods()) {
                due(method + " has a name of its own", !publicNames.contains(method.getName()));
            }
        }
        System.out.println(wrong == 0 ? "the face is as due" : wrong + " things of the face are not as due");
        if (wrong != 0) {
            System.exit(1);
        }
    }
}
