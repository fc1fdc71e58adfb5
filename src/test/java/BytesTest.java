/** Promises 11 to 13 and 15: size, byteAt, part, and the order of what stands in the BYTES. */
public final class BytesTest {
    private static final Check CHECK = new Check();
    private static final String HEAD = "{00}{01}C{00}{00}{00}{00}";

    public static void main(String[] args) {
        heads();
        interfaceHeads();
        facesInOrder();
        fieldsInOrder();
        hiddenFields();
        fieldModifiers();
        start();
        constructors();
        methods();
        callModifiers();
        parts();
        longest();
        refusals();
        CHECK.end();
    }

    private static StreamIds withClass(int modifiers) {
        StreamIds x = new StreamIds();
        Check.define(x, 0, "C", modifiers);
        return x;
    }

    private static void bytes(String what, StreamIds x, String due) {
        CHECK.due(what, Check.readable(Check.bytes(x, 0)), due);
    }

    private static int number(StreamIds x, int from) {
        return x.byteAt(0, from) << 24 | x.byteAt(0, from + 1) << 16 | x.byteAt(0, from + 2) << 8
                | x.byteAt(0, from + 3);
    }

    private static void heads() {
        for (int bit = 0; bit < 16; bit++) {
            int due = 1 << bit & (1 | 16 | 1024);
            if (bit != 9) {
                CHECK.due("class bit " + bit, number(withClass(1 << bit), 3), due);
            }
        }
        CHECK.due("all bits but 512", number(withClass(~512), 3), 1 | 16 | 1024);
        StreamIds x = new StreamIds();
        Check.define(x, 0, "a.B/c", 1);
        bytes("a name stays as it is", x, "{00}{05}a.B/c{00}{00}{00}{01}");
        CHECK.due("size", x.size(0), 11);
    }

    private static void interfaceHeads() {
        StreamIds x = withClass(512 | 1024 | 1);
        CHECK.due("an interface without methods", number(x, 3), 512 | 1);
        Check.field(x, 0, "f", "I", 0);
        Check.constructor(x, 0, "()V", 0);
        Check.start(x, 0);
        CHECK.due("other members are no methods", number(x, 3), 512 | 1);
        Check.method(x, 0, "m", "()V", 2);
        CHECK.due("a private method is one", number(x, 3), 512 | 1024 | 1);
        x = withClass(512);
        Check.method(x, 0, "m", "()V", 0);
        CHECK.due("an interface with a method is abstract", number(x, 3), 512 | 1024);
        CHECK.due("its modifiers are as given", x.count(0, 6), 512);
        x = withClass(1024);
        CHECK.due("an abstract class without methods", number(x, 3), 1024);
        x = withClass(0);
        Check.method(x, 0, "m", "()V", 0);
        CHECK.due("a class with methods", number(x, 3), 0);
    }

    private static void facesInOrder() {
        StreamIds x = withClass(0);
        Check.face(x, 0, "b");
        Check.face(x, 0, "ab");
        Check.face(x, 0, "a");
        Check.face(x, 0, "Z/.");
        bytes("interfaces", x, HEAD + "{00}{03}Z/.{00}{01}a{00}{02}ab{00}{01}b");
    }

    private static void fieldsInOrder() {
        StreamIds x = withClass(0);
        Check.field(x, 0, "b", "B", 0);
        Check.field(x, 0, "aa", "Z", 1);
        Check.field(x, 0, "a", "La/b;", 4);
        Check.field(x, 0, "~", "[I", 16);
        Check.field(x, 0, "B", "J", 128);
        bytes("fields", x, HEAD + "{00}{01}B{00}{00}{00}{80}{00}{01}J"
                + "{00}{01}a{00}{00}{00}{04}{00}{05}La/b;" + "{00}{02}aa{00}{00}{00}{01}{00}{01}Z"
                + "{00}{01}b{00}{00}{00}{00}{00}{01}B" + "{00}{01}~{00}{00}{00}{10}{00}{02}[I");
        CHECK.due("a byte above 127", x.byteAt(0, 13), 128);
    }

    private static void hiddenFields() {
        for (int modifiers = 0; modifiers < 256; modifiers++) {
            StreamIds x = withClass(0);
            Check.field(x, 0, "f", "I", modifiers);
            boolean hidden = (modifiers & 2) != 0 && (modifiers & (8 | 128)) != 0;
            CHECK.due("size with a field of " + modifiers, x.size(0), hidden ? 7 : 17);
            CHECK.due("the field is there", x.count(0, 2), 1);
        }
    }

    private static void fieldModifiers() {
        for (int bit = 0; bit < 16; bit++) {
            StreamIds x = withClass(0);
            Check.field(x, 0, "f", "I", 1 << bit);
            CHECK.due("field bit " + bit, number(x, 10), 1 << bit & 0xDF);
        }
        StreamIds x = withClass(0);
        Check.field(x, 0, "f", "I", ~2);
        CHECK.due("all field bits but private", number(x, 10), 0xDD);
    }

    private static void start() {
        StreamIds x = withClass(0);
        Check.put(x, 0, "name");
        Check.put(x, 1, "I");
        x.member(0, 3, 2 | 1);
        bytes("the start, private or not", x, HEAD + "{00}{08}<clinit>{00}{00}{00}{08}{00}{03}()V");
    }

    private static void constructors() {
        StreamIds x = withClass(0);
        Check.constructor(x, 0, "(La/b;)V", 1);
        Check.constructor(x, 0, "(La0;)V", 0);
        Check.constructor(x, 0, "(La-;)V", 0);
        Check.constructor(x, 0, "()V", 2);
        bytes("constructors", x, HEAD + "{00}{06}<init>{00}{00}{00}{00}{00}{07}(La-;)V"
                + "{00}{06}<init>{00}{00}{00}{01}{00}{08}(La.b;)V"
                + "{00}{06}<init>{00}{00}{00}{00}{00}{07}(La0;)V");
        CHECK.due("the private one is there", x.count(0, 3), 4);
    }

    private static void methods() {
        StreamIds x = withClass(0);
        Check.method(x, 0, "b", "()V", 0);
        Check.method(x, 0, "ab", "()V", 0);
        Check.method(x, 0, "a/", "()V", 0);
        Check.method(x, 0, "a", "(La/;)V", 0);
        Check.method(x, 0, "a", "(I)V", 1);
        Check.method(x, 0, "a", "()V", 2);
        bytes("methods", x, HEAD + "{00}{01}a{00}{00}{00}{01}{00}{04}(I)V"
                + "{00}{01}a{00}{00}{00}{00}{00}{07}(La.;)V"
                + "{00}{02}a/{00}{00}{00}{00}{00}{03}()V" + "{00}{02}ab{00}{00}{00}{00}{00}{03}()V"
                + "{00}{01}b{00}{00}{00}{00}{00}{03}()V");
    }

    private static void callModifiers() {
        int kept = 1 | 4 | 8 | 16 | 32 | 256 | 1024 | 2048;
        for (int bit = 0; bit < 16; bit++) {
            StreamIds method = withClass(0);
            Check.method(method, 0, "m", "()V", 1 << bit);
            StreamIds constructor = withClass(0);
            Check.constructor(constructor, 0, "()V", 1 << bit);
            if (bit == 1) {
                CHECK.due("a private method", method.size(0), 7);
                CHECK.due("a private constructor", constructor.size(0), 7);
            } else {
                CHECK.due("method bit " + bit, number(method, 10), 1 << bit & kept);
                CHECK.due("constructor bit " + bit, number(constructor, 15), 1 << bit & kept);
            }
        }
    }

    private static void partsAre(StreamIds x, int... due) {
        for (int k = 0; k < due.length; k++) {
            CHECK.due("part(0, " + k + ")", x.part(0, k), due[k]);
        }
    }

    private static void parts() {
        StreamIds x = withClass(0);
        partsAre(x, 0, 7, 7, 7, 7, 7);
        Check.method(x, 0, "m", "()V", 0);
        partsAre(x, 0, 7, 7, 7, 7, 7);
        Check.constructor(x, 0, "()V", 0);
        partsAre(x, 0, 7, 7, 7, 7, 24);
        Check.start(x, 0);
        partsAre(x, 0, 7, 7, 7, 26, 43);
        Check.field(x, 0, "f", "I", 0);
        partsAre(x, 0, 7, 7, 17, 36, 53);
        Check.face(x, 0, "F");
        partsAre(x, 0, 7, 10, 20, 39, 56);
        CHECK.due("size", x.size(0), 68);
        Check.field(x, 0, "g", "I", 10);
        partsAre(x, 0, 7, 10, 20, 39, 56);
        Check.remove(x, 0, 0, "f", "");
        partsAre(x, 0, 7, 10, 10, 29, 46);
    }

    /** Every text as long as a buffer: the most bytes that a class can have. */
    private static void longest() {
        StreamIds x = new StreamIds();
        Check.define(x, 0, "abcdefghijklmnopqrstuvwx", 1);
        for (int i = 0; i < 4; i++) {
            Check.face(x, 0, "abcdefghijklmnopqrstuvw" + i);
        }
        for (int i = 0; i < 10; i++) {
            Check.method(x, 0, "abcdefghijklmnopqrstuvw" + i, "(IIIIIIIIIIIIIIIIIIIII)V", 1);
        }
        CHECK.due("the most bytes", x.size(0), 694);
        CHECK.due("the last byte", x.byteAt(0, 693), 'V');
        CHECK.due("none behind it", x.byteAt(0, 694), StreamIds.REFUSED);
        CHECK.due("its hash", x.hash(0, 0), java.nio.ByteBuffer.wrap(Oracle.sha(longestBytes())).getInt(0));
    }

    private static byte[] longestBytes() {
        StringBuilder text = new StringBuilder("\0\30abcdefghijklmnopqrstuvwx\0\0\0\1");
        for (int i = 0; i < 4; i++) {
            text.append("\0\30abcdefghijklmnopqrstuvw").append(i);
        }
        for (int i = 0; i < 10; i++) {
            text.append("\0\30abcdefghijklmnopqrstuvw").append(i).append("\0\0\0\1");
            text.append("\0\30(IIIIIIIIIIIIIIIIIIIII)V");
        }
        return text.toString().getBytes(java.nio.charset.StandardCharsets.ISO_8859_1);
    }

    private static void refusals() {
        StreamIds x = withClass(0);
        for (int number : new int[] {-1, 1, 4, Integer.MIN_VALUE, Integer.MAX_VALUE}) {
            CHECK.due("size(" + number + ")", x.size(number), StreamIds.REFUSED);
            CHECK.due("byteAt(" + number + ", 0)", x.byteAt(number, 0), StreamIds.REFUSED);
            CHECK.due("part(" + number + ", 0)", x.part(number, 0), StreamIds.REFUSED);
        }
        for (int i : new int[] {-1, 7, Integer.MIN_VALUE, Integer.MAX_VALUE}) {
            CHECK.due("byteAt(0, " + i + ")", x.byteAt(0, i), StreamIds.REFUSED);
        }
        for (int k : new int[] {-1, 6, Integer.MIN_VALUE, Integer.MAX_VALUE}) {
            CHECK.due("part(0, " + k + ")", x.part(0, k), StreamIds.REFUSED);
        }
        CHECK.due("byteAt(0, 6)", x.byteAt(0, 6), 0);
    }
}
