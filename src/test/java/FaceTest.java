import java.lang.reflect.Constructor;
import java.lang.reflect.Field;
import java.lang.reflect.Method;
import java.lang.reflect.Modifier;
import java.util.ArrayList;
import java.util.Arrays;
import java.util.List;
import java.util.TreeSet;

/** The public face of the document: just its constants, its constructor and its methods. */
public final class FaceTest {
    private static final Checks CHECKS = new Checks("FaceTest");

    public static void main(String[] args) {
        classAndConstructor();
        constants();
        methods();
        CHECKS.end();
    }

    private static void classAndConstructor() {
        CHECKS.isTrue("the class is public and final",
                Modifier.isPublic(JobBoard.class.getModifiers()) && Modifier.isFinal(JobBoard.class.getModifiers()));
        Constructor<?>[] all = JobBoard.class.getDeclaredConstructors();
        CHECKS.due("constructors", all.length, 1);
        CHECKS.isTrue("the constructor is public and takes an int",
                Modifier.isPublic(all[0].getModifiers()) && Arrays.equals(all[0].getParameterTypes(), new Class<?>[] {int.class}));
    }

    private static void constants() {
        List<String> found = new ArrayList<>();
        for (Field field : JobBoard.class.getDeclaredFields()) {
            if (!Modifier.isPrivate(field.getModifiers())) {
                found.add(field.getName());
                CHECKS.isTrue(field.getName() + " is public static final", Modifier.isPublic(field.getModifiers())
                        && Modifier.isStatic(field.getModifiers()) && Modifier.isFinal(field.getModifiers()));
            }
        }
        CHECKS.isTrue("the constants are the document's: " + found, new TreeSet<>(found).equals(new TreeSet<>(List.of(
                "OK", "REFUSED", "FULL", "DUPLICATE", "NONE", "SCHEDULED", "READY", "RESERVED", "RETRYING", "DONE",
                "DEAD", "HELD", "GONE"))));
        int[] values = {JobBoard.OK, JobBoard.REFUSED, JobBoard.FULL, JobBoard.DUPLICATE, JobBoard.NONE,
            JobBoard.SCHEDULED, JobBoard.READY, JobBoard.RESERVED, JobBoard.RETRYING, JobBoard.DONE, JobBoard.DEAD,
            JobBoard.HELD, JobBoard.GONE};
        CHECKS.isTrue("their values are the document's",
                Arrays.equals(values, new int[] {0, -1, -2, -3, -4, 0, 1, 2, 3, 4, 5, 6, 7}));
    }

    private static void methods() {
        List<String> found = new ArrayList<>();
        List<String> hidden = new ArrayList<>();
        for (Method method : JobBoard.class.getDeclaredMethods()) {
            if (Modifier.isPrivate(method.getModifiers())) {
                hidden.add(method.getName());
                continue;
            }
            found.add(method.getName() + method.getParameterCount());
            CHECKS.isTrue(method + " is public, not static and answers an int", method.getReturnType() == int.class
                    && Modifier.isPublic(method.getModifiers()) && !Modifier.isStatic(method.getModifiers()));
            for (Class<?> type : method.getParameterTypes()) {
                CHECKS.isTrue(method + " takes ints alone", type == int.class);
            }
        }
        CHECKS.isTrue("the methods are the document's: " + found, new TreeSet<>(found).equals(new TreeSet<>(List.of(
                "queue4", "key1", "submit5", "hold2", "join2", "seal1", "take2", "ack1", "fail1", "tick1", "revive1",
                "kill1", "flush0", "crash1", "state1", "failures1", "due1", "holding1", "line2", "count1"))));
        for (String name : hidden) {
            CHECKS.isTrue("no public method is named like the private " + name,
                    found.stream().noneMatch(each -> each.substring(0, each.length() - 1).equals(name)));
        }
    }
}
