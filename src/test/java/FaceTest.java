import java.lang.reflect.Constructor;
import java.lang.reflect.Executable;
import java.lang.reflect.Field;
import java.lang.reflect.Member;
import java.lang.reflect.Method;
import java.lang.reflect.Modifier;
import java.util.List;
import java.util.TreeSet;

/** The public face is the document's, and nothing but private members stands beside it. */
public final class FaceTest {
    private static final List<String> DUE = List.of(
        "public static final int NONE",
        "public GameGraph()",
        "public void states(int) IllegalArgumentException",
        "public void end(int, int, int) IndexOutOfBoundsException IllegalArgumentException",
        "public void open(int, int, int) IndexOutOfBoundsException IllegalArgumentException",
        "public void link(int, int, int) IndexOutOfBoundsException",
        "public int next(int, int) IndexOutOfBoundsException",
        "public int reached()",
        "public int defect(int) IllegalArgumentException",
        "public int value(int) IllegalStateException IndexOutOfBoundsException",
        "public int best(int) IllegalStateException IndexOutOfBoundsException",
        "public int length(int) IllegalStateException IndexOutOfBoundsException");

    private static final TreeSet<String> found = new TreeSet<>();

    private static boolean isSeen(Member member) {
        return !Modifier.isPrivate(member.getModifiers()) && !member.isSynthetic();
    }

    private static String list(Class<?>[] types) {
        StringBuilder text = new StringBuilder();
        for (Class<?> type : types) {
            text.append(text.length() == 0 ? "" : ", ").append(type.getSimpleName());
        }
        return text.toString();
    }

    private static String signature(Executable called, String name) {
        StringBuilder text = new StringBuilder(Modifier.toString(called.getModifiers()));
        text.append(' ').append(name).append('(').append(list(called.getParameterTypes())).append(')');
        for (Class<?> thrown : called.getExceptionTypes()) {
            text.append(' ').append(thrown.getSimpleName());
        }
        return text.toString();
    }

    private static void find() {
        for (Field field : GameGraph.class.getDeclaredFields()) {
            if (isSeen(field)) {
                found.add(Modifier.toString(field.getModifiers()) + " " + field.getType() + " " + field.getName());
            }
        }
        for (Constructor<?> made : GameGraph.class.getDeclaredConstructors()) {
            if (isSeen(made)) {
                found.add(signature(made, "GameGraph"));
            }
        }
        for (Method method : GameGraph.class.getDeclaredMethods()) {
            if (isSeen(method)) {
                found.add(signature(method, method.getReturnType() + " " + method.getName()));
            }
        }
    }

    public static void main(String[] args) {
        find();
        TreeSet<String> missing = new TreeSet<>(DUE);
        missing.removeAll(found);
        TreeSet<String> extra = new TreeSet<>(found);
        extra.removeAll(DUE);
        boolean isFinal = Modifier.toString(GameGraph.class.getModifiers()).equals("public final");
        missing.forEach(line -> System.out.println("missing: " + line));
        extra.forEach(line -> System.out.println("not of the document: " + line));
        if (!isFinal || !missing.isEmpty() || !extra.isEmpty()) {
            System.out.println("the face is not as due");
            System.exit(1);
        }
        System.out.println("the face is as due");
    }
}
