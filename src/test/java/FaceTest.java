import java.lang.reflect.Constructor;
import java.lang.reflect.Field;
import java.lang.reflect.Method;
import java.lang.reflect.Modifier;
import java.util.Arrays;
import java.util.Set;
import java.util.TreeSet;

/** The class has the document's face, and no other member that is not private. */
public final class FaceTest {
    private static final String ARGUMENT = " throws IllegalArgumentException";
    private static final String BOTH = ARGUMENT + ", IllegalStateException";

    private static final String[] FACE = {
        "public static final int NONE",
        "public SharedLeaves()",
        "public int make(int, int)" + BOTH,
        "public int copy(int)" + BOTH,
        "public int slice(int, int, int)" + BOTH,
        "public int join(int, int)" + BOTH,
        "public boolean release(int)",
        "public int get(int, int)" + ARGUMENT,
        "public void set(int, int, int)" + BOTH,
        "public void fill(int, int, int, int)" + BOTH,
        "public void move(int, int, int, int)" + BOTH,
        "public void sort(int)" + BOTH,
        "public void reverse(int)" + BOTH,
        "public int length(int)",
        "public long sum(int, int, int)" + ARGUMENT,
        "public int bound(int, int, int, int)" + ARGUMENT,
        "public int find(int, int, int)" + ARGUMENT,
        "public int difference(int, int)" + ARGUMENT,
        "public int used()",
        "public int made()",
        "public int leaf(int, int)",
        "public boolean alike(int, int, int, int)",
    };

    public static void main(String[] args) {
        Checks checks = new Checks();
        Set<String> due = new TreeSet<>(Arrays.asList(FACE));
        Set<String> got = members();
        for (String member : due) {
            checks.due("there is: " + member, got.contains(member), true);
        }
        for (String member : got) {
            checks.due("there may be: " + member, due.contains(member), true);
        }
        int modifiers = SharedLeaves.class.getModifiers();
        checks.due("the class is public", Modifier.isPublic(modifiers), true);
        checks.due("the class is final", Modifier.isFinal(modifiers), true);
        checks.due("NONE", SharedLeaves.NONE, -1);
        checks.end();
    }

    private static Set<String> members() {
        Set<String> members = new TreeSet<>();
        for (Field field : SharedLeaves.class.getDeclaredFields()) {
            if (!Modifier.isPrivate(field.getModifiers())) {
                members.add(Modifier.toString(field.getModifiers()) + " " + field.getType() + " " + field.getName());
            }
        }
        for (Constructor<?> constructor : SharedLeaves.class.getDeclaredConstructors()) {
            if (!Modifier.isPrivate(constructor.getModifiers())) {
                String start = Modifier.toString(constructor.getModifiers()) + " SharedLeaves";
                members.add(start + names("(", constructor.getParameterTypes(), ")"));
            }
        }
        for (Method method : SharedLeaves.class.getDeclaredMethods()) {
            if (!Modifier.isPrivate(method.getModifiers())) {
                members.add(written(method));
            }
        }
        return members;
    }

    private static String written(Method method) {
        String start = Modifier.toString(method.getModifiers()) + " " + method.getReturnType() + " " + method.getName();
        String parameters = names("(", method.getParameterTypes(), ")");
        Class<?>[] thrown = method.getExceptionTypes();
        return start + parameters + (thrown.length == 0 ? "" : names(" throws ", thrown, ""));
    }

    private static String names(String before, Class<?>[] types, String after) {
        StringBuilder text = new StringBuilder(before);
        for (int i = 0; i < types.length; i++) {
            text.append(i == 0 ? "" : ", ").append(types[i].getSimpleName());
        }
        return text.append(after).toString();
    }
}
