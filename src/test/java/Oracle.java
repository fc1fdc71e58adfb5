import java.io.ByteArrayOutputStream;
import java.io.DataOutputStream;
import java.io.IOException;
import java.security.MessageDigest;
import java.security.NoSuchAlgorithmException;
import java.util.Map;
import java.util.TreeMap;
import java.util.TreeSet;
import java.util.regex.Pattern;

/** The document told a second time with the Java library, to be compared with the program. */
final class Oracle {
    private static final String TYPE = "\\[{0,3}(?:[BCDFIJSZ]|L[^;\\[().]+;)";
    private static final Pattern TYPE_SHAPE = Pattern.compile(TYPE);
    private static final Pattern METHOD_SHAPE =
            Pattern.compile("\\((?:" + TYPE + ")*\\)(?:V|" + TYPE + ")");
    private static final Pattern CONSTRUCTOR_SHAPE = Pattern.compile("\\((?:" + TYPE + ")*\\)V");

    private record Member(String name, String shape, int modifiers) { }

    private static final class Declared {
        String name;
        int modifiers;
        Long ownId;
        final TreeSet<String> faces = new TreeSet<>();
        final TreeMap<String, Member> fields = new TreeMap<>();
        final TreeMap<String, Member> constructors = new TreeMap<>();
        final TreeMap<String, Member> methods = new TreeMap<>();
        final TreeMap<String, Member> start = new TreeMap<>();

        Map<String, Member> ofKind(int kind) {
            return switch (kind) {
                case 0 -> fields;
                case 1 -> constructors;
                case 2 -> methods;
                default -> start;
            };
        }

        int members() {
            return fields.size() + constructors.size() + methods.size() + start.size();
        }
    }

    private final String[] buffers = {"", ""};
    private final Declared[] classes = new Declared[4];
    private final int[] parts = new int[6];

    int type(int buffer, long signs) {
        if (buffer < 0 || buffer > 1) {
            return -1;
        }
        String text = buffers[buffer];
        for (int i = 7; i >= 0; i--) {
            int sign = (int) (signs >> 8 * i & 255);
            if (sign != 0 && (sign <= 32 || sign >= 127)) {
                return -1;
            }
            text += sign == 0 ? "" : String.valueOf((char) sign);
        }
        if (text.length() > 24) {
            return -4;
        }
        buffers[buffer] = text;
        return text.length();
    }

    int clear(int buffer) {
        if (buffer < 0 || buffer > 1) {
            return -1;
        }
        int length = buffers[buffer].length();
        buffers[buffer] = "";
        return length;
    }

    int define(int number, int modifiers) {
        if (number < 0 || number > 3) {
            return -1;
        }
        if (buffers[0].isEmpty()) {
            return -2;
        }
        classes[number] = new Declared();
        classes[number].name = buffers[0];
        classes[number].modifiers = modifiers & 65535;
        return 0;
    }

    private boolean isThere(int number) {
        return number >= 0 && number <= 3 && classes[number] != null;
    }

    int face(int number) {
        if (!isThere(number)) {
            return -1;
        }
        TreeSet<String> faces = classes[number].faces;
        if (buffers[0].isEmpty()) {
            return -2;
        }
        if (faces.contains(buffers[0])) {
            return -3;
        }
        if (faces.size() == 4) {
            return -4;
        }
        faces.add(buffers[0]);
        return faces.size();
    }

    /** A blank comes before every sign, so that keys are ordered by names and then shapes. */
    private String key(int kind) {
        return switch (kind) {
            case 0 -> buffers[0];
            case 1 -> buffers[1];
            case 2 -> buffers[0] + " " + buffers[1];
            default -> "";
        };
    }

    private boolean isFit(int kind) {
        return switch (kind) {
            case 0 -> !buffers[0].isEmpty() && TYPE_SHAPE.matcher(buffers[1]).matches();
            case 1 -> CONSTRUCTOR_SHAPE.matcher(buffers[1]).matches();
            case 2 -> !buffers[0].isEmpty() && METHOD_SHAPE.matcher(buffers[1]).matches();
            default -> true;
        };
    }

    int member(int number, int kind, int modifiers) {
        if (!isThere(number) || kind < 0 || kind > 3) {
            return -1;
        }
        if (!isFit(kind)) {
            return -2;
        }
        Declared declared = classes[number];
        if (declared.ofKind(kind).containsKey(key(kind))) {
            return -3;
        }
        if (declared.members() == 10) {
            return -4;
        }
        Member member = new Member(buffers[0], buffers[1], modifiers & 65535);
        declared.ofKind(kind).put(key(kind), member);
        return declared.members();
    }

    int remove(int number, int kind) {
        if (!isThere(number) || kind < 0 || kind > 3) {
            return -1;
        }
        Member gone = classes[number].ofKind(kind).remove(key(kind));
        return gone == null ? -2 : classes[number].members();
    }

    int declare(int number, boolean on, long id) {
        if (!isThere(number)) {
            return -1;
        }
        classes[number].ownId = on ? id : null;
        return 0;
    }

    long id(int number) {
        if (!isThere(number)) {
            return StreamIds.NONE;
        }
        if ((classes[number].modifiers & 16384) != 0) {
            return 0;
        }
        if (classes[number].ownId != null) {
            return classes[number].ownId;
        }
        byte[] hash = sha(bytes(number));
        long id = 0;
        for (int i = 7; i >= 0; i--) {
            id = id * 256 + (hash[i] & 255);
        }
        return id;
    }

    long hash(int number, int k) {
        if (!isThere(number) || k < 0 || k > 4) {
            return StreamIds.NONE;
        }
        return java.nio.ByteBuffer.wrap(sha(bytes(number))).getInt(4 * k);
    }

    int size(int number) {
        return isThere(number) ? bytes(number).length : -1;
    }

    int byteAt(int number, int i) {
        if (!isThere(number)) {
            return -1;
        }
        byte[] bytes = bytes(number);
        return i < 0 || i >= bytes.length ? -1 : Byte.toUnsignedInt(bytes[i]);
    }

    int part(int number, int k) {
        if (!isThere(number) || k < 0 || k > 5) {
            return -1;
        }
        bytes(number);
        return parts[k];
    }

    int count(int number, int what) {
        if (!isThere(number)) {
            return -1;
        }
        Declared declared = classes[number];
        return switch (what) {
            case 0 -> declared.faces.size();
            case 1 -> declared.members();
            case 2, 3, 4, 5 -> declared.ofKind(what - 2).size();
            case 6 -> declared.modifiers;
            case 7 -> declared.ownId == null ? 0 : 1;
            default -> -1;
        };
    }

    static byte[] sha(byte[] bytes) {
        try {
            return MessageDigest.getInstance("SHA-1").digest(bytes);
        } catch (NoSuchAlgorithmException none) {
            throw new IllegalStateException(none);
        }
    }

    private byte[] bytes(int number) {
        ByteArrayOutputStream bytes = new ByteArrayOutputStream();
        try (DataOutputStream out = new DataOutputStream(bytes)) {
            write(classes[number], out);
        } catch (IOException never) {
            throw new IllegalStateException(never);
        }
        return bytes.toByteArray();
    }

    private void write(Declared declared, DataOutputStream out) throws IOException {
        int modifiers = declared.modifiers & (1 + 16 + 512 + 1024);
        if ((modifiers & 512) != 0) {
            modifiers = (modifiers & (1 + 16 + 512)) + (declared.methods.isEmpty() ? 0 : 1024);
        }
        parts[0] = out.size();
        out.writeUTF(declared.name);
        out.writeInt(modifiers);
        parts[1] = out.size();
        for (String face : declared.faces) {
            out.writeUTF(face);
        }
        parts[2] = out.size();
        for (Member field : declared.fields.values()) {
            int m = field.modifiers;
            if ((m & 2) == 0 || (m & 8) == 0 && (m & 128) == 0) {
                out.writeUTF(field.name);
                out.writeInt(m & (1 + 2 + 4 + 8 + 16 + 64 + 128));
                out.writeUTF(field.shape);
            }
        }
        parts[3] = out.size();
        if (!declared.start.isEmpty()) {
            out.writeUTF("<clinit>");
            out.writeInt(8);
            out.writeUTF("()V");
        }
        parts[4] = out.size();
        for (Member constructor : declared.constructors.values()) {
            writeCall("<init>", constructor, out);
        }
        parts[5] = out.size();
        for (Member method : declared.methods.values()) {
            writeCall(method.name, method, out);
        }
    }

    private static void writeCall(String name, Member member, DataOutputStream out)
            throws IOException {
        if ((member.modifiers & 2) == 0) {
            out.writeUTF(name);
            out.writeInt(member.modifiers & (1 + 2 + 4 + 8 + 16 + 32 + 256 + 1024 + 2048));
            out.writeUTF(member.shape.replace('/', '.'));
        }
    }
}
