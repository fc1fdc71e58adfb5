import java.lang.reflect.Constructor;
import java.lang.reflect.Field;
import java.lang.reflect.Method;
import java.lang.reflect.Modifier;
import java.util.TreeSet;

/** The public face: what the document lists, and nothing else that is not private. */
public final class FaceTest {
    private static final String[] FACE = {
        "public final class StreamIds",
        "public static final int StreamIds.DONE",
        "public static final int StreamIds.REFUSED",
        "public static final int StreamIds.BAD",
        "public static final int StreamIds.TWICE",
        "public static final int StreamIds.FULL",
        "public static final long StreamIds.NONE",
        "public StreamIds()",
        "public int StreamIds.type(int,long)",
        "public int StreamIds.clear(int)",
        "public int StreamIds.define(int,int)",
        "public int StreamIds.face(int)",
        "public int StreamIds.member(int,int,int)",
        "public int StreamIds.remove(int,int)",
        "public int StreamIds.declare(int,boolean,long)",
        "public long StreamIds.id(int)",
        "public long StreamIds.hash(int,int)",
        "public int StreamIds.size(int)",
        "public int StreamIds.byteAt(int,int)",
        "public int StreamIds.part(int,int)",
        "public int StreamIds.count(int,int)"};

    public static void main(String[] args) {
        Check check = new Check();
        TreeSet<String> due = new TreeSet<>(java.util.List.of(FACE));
        check.due("the face", String.join("\n", found()), String.join("\n", due));
        constants(check);
        check.end();
    }

    private static TreeSet<String> found() {
        TreeSet<String> found = new TreeSet<>();
        found.add(StreamIds.class.toGenericString());
        for (Field each : StreamIds.class.getDeclaredFields()) {
            if (!Modifier.isPrivate(each.getModifiers())) {
                found.add(each.toString());
            }
        }
        for (Constructor<?> each : StreamIds.class.getDeclaredConstructors()) {
            if (!Modifier.isPrivate(each.getModifiers())) {
                found.add(each.toString());
            }
        }
        for (Method each : StreamIds.class.getDeclaredMethods()) {
            if (!Modifier.isPrivate(each.getModifiers())) {
                found.add(each.toString());
            }
        }
        return found;
    }

    private static void constants(Check check) {
        check.due("DONE", StreamIds.DONE, 0);
        check.due("REFUSED", StreamIds.REFUSED, -1);
        check.due("BAD", StreamIds.BAD, -2);
        check.due("TWICE", StreamIds.TWICE, -3);
        check.due("FULL", StreamIds.FULL, -4);
        check.due("NONE", StreamIds.NONE, -9000000000000000001L);
    }
}
