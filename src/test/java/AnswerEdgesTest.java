import java.nio.ByteBuffer;

/** The Terms of BYTES, HASH and IDENTIFIER and promises 9 to 15, sentence by sentence. */
public final class AnswerEdgesTest {
    private static final Check CHECK = new Check();
    private static final int REFUSED = StreamIds.REFUSED;
    private static final long NONE = StreamIds.NONE;
    private static final String LONGEST = "abcdefghijklmnopqrstuvwx";
    private static final String HEAD = "{00}{01}C{00}{00}{00}{00}";
    private static final int LEAST = Integer.MIN_VALUE;
    private static final int MOST = Integer.MAX_VALUE;

    public static void main(String[] args) {
        numbersOfSigns();
        numbers();
        textsByFirstDifference();
        shapesByFirstDifference();
        textsThatBeginAlike();
        abstractInterfaces();
        hiddenFields();
        startOrNot();
        privateCalls();
        dotsForSlashes();
        padding();
        manyBytes();
        wrapping();
        whichIdentifier();
        bytesOfIdentifier();
        whichNumberOfHash();
        sizes();
        bytesAtTheEnds();
        bytesThatAreGone();
        whichParts();
        partsWithoutBytes();
        whichCounts();
        countsOfNothing();
        facesHoweverTheyCame();
        bytesAbove127();
        comma();
        CHECK.end();
    }

    private static StreamIds withClass(int modifiers) {
        StreamIds x = new StreamIds();
        Check.define(x, 0, "C", modifiers);
        return x;
    }

    private static void bytes(String what, StreamIds x, String due) {
        CHECK.due(what, Check.readable(Check.bytes(x, 0)), due);
    }

    private static void numbersOfSigns() {
        CHECK.sentence("UTF of signs: their number as 2 bytes, highest first, then a byte each.");
        StreamIds x = new StreamIds();
        Check.define(x, 0, "!", 0);
        bytes("a name of one sign", x, "{00}{01}!{00}{00}{00}{00}");
        Check.define(x, 0, LONGEST, 0);
        bytes("a name of 24 signs", x, "{00}{18}" + LONGEST + "{00}{00}{00}{00}");
        x = withClass(0);
        Check.field(x, 0, LONGEST, "Labcdefghijklmnopqrstuv;", 0);
        bytes("a shape of 24 signs", x,
                HEAD + "{00}{18}" + LONGEST + "{00}{00}{00}{00}{00}{18}Labcdefghijklmnopqrstuv;");
    }

    private static void numbers() {
        CHECK.sentence("A number is written as 4 bytes, highest first.");
        bytes("the least of a class", withClass(0), HEAD);
        StreamIds x = withClass(-1);
        Check.method(x, 0, "m", "()V", -3);
        Check.field(x, 0, "f", "I", -3);
        Check.constructor(x, 0, "()V", -3);
        bytes("the most of all", x, "{00}{01}C{00}{00}{06}{11}{00}{01}f{00}{00}{00}{dd}{00}{01}I"
                + "{00}{06}<init>{00}{00}{0d}={00}{03}()V{00}{01}m{00}{00}{0d}={00}{03}()V");
    }

    /** The members and interfaces that have these names stand in this order, however they came. */
    private static void ordered(String first, String second) {
        for (int turn = 0; turn < 2; turn++) {
            String[] names = turn == 0 ? new String[] {first, second} : new String[] {second, first};
            StreamIds x = withClass(0);
            for (String name : names) {
                Check.face(x, 0, name);
                Check.field(x, 0, name, "I", 0);
                Check.method(x, 0, name, "()V", 0);
            }
            CHECK.due(first + ", an interface", textAt(x, 7), first);
            CHECK.due(first + ", a field", textAt(x, x.part(0, 2)), first);
            CHECK.due(first + ", a method", textAt(x, x.part(0, 5)), first);
        }
    }

    private static String textAt(StreamIds x, int from) {
        StringBuilder text = new StringBuilder();
        int length = x.byteAt(0, from) * 256 + x.byteAt(0, from + 1);
        for (int i = 0; i < length; i++) {
            text.append((char) x.byteAt(0, from + 2 + i));
        }
        return text.toString();
    }

    private static void textsByFirstDifference() {
        CHECK.sentence("Texts are ordered by their first different sign's code");
        ordered("!", "~");
        ordered("Z", "a");
        ordered("a~", "b!");
        ordered("az", "ba");
        ordered("abcdefghijklmnopqrstuvwx", "abcdefghijklmnopqrstuvwy");
        ordered("ab~~~~~~", "b");
        ordered("a.", "a/");
    }

    private static void shapesByFirstDifference() {
        CHECK.sentence("ordered by SHAPES; ordered by names and then SHAPES");
        StreamIds x = withClass(0);
        Check.constructor(x, 0, "(IJ)V", 0);
        Check.constructor(x, 0, "(I)V", 0);
        Check.method(x, 0, "m", "()La;", 0);
        Check.method(x, 0, "m", "()La/b;", 0);
        Check.method(x, 0, "n", "()I", 0);
        CHECK.due("the first constructor", textAt(x, x.part(0, 4) + 12), "(I)V");
        CHECK.due("the first method", textAt(x, x.part(0, 5) + 7), "()La.b;");
        CHECK.due("the last method", textAt(x, x.size(0) - 5), "()I");
    }

    private static void textsThatBeginAlike() {
        CHECK.sentence("a text that another begins with comes before it");
        ordered("a", "aa");
        ordered("a", "a!");
        ordered("a", LONGEST);
        ordered("abcdefghijklmnopqrstuvw", LONGEST);
    }

    private static void abstractInterfaces() {
        CHECK.sentence("if 512 is set: 1024 exactly if it has METHODS (of any MODIFIERS)");
        for (int others : new int[] {0, 1, 16, 1 | 16}) {
            for (int given : new int[] {512, 512 | 1024}) {
                StreamIds x = withClass(given | others);
                CHECK.due("without methods", classNumber(x), 512 | others);
                Check.constructor(x, 0, "()V", 0);
                CHECK.due("with a constructor", classNumber(x), 512 | others);
                Check.method(x, 0, "m", "()V", 2);
                CHECK.due("with a private method", classNumber(x), 512 | 1024 | others);
                Check.remove(x, 0, 2, "m", "()V");
                CHECK.due("without it", classNumber(x), 512 | others);
            }
            for (int given : new int[] {0, 1024}) {
                StreamIds x = withClass(given | others);
                CHECK.due("a class without methods", classNumber(x), given | others);
                Check.method(x, 0, "m", "()V", 1024);
                CHECK.due("a class with a method", classNumber(x), given | others);
            }
        }
    }

    private static int classNumber(StreamIds x) {
        return x.byteAt(0, 3) << 24 | x.byteAt(0, 4) << 16 | x.byteAt(0, 5) << 8 | x.byteAt(0, 6);
    }

    private static void hiddenFields() {
        CHECK.sentence("of each FIELD but those that are private and (static or transient)");
        int[][] modifiersAndSize = {{0, 17}, {2, 17}, {8, 17}, {128, 17}, {8 | 128, 17}, {2 | 8, 7},
            {2 | 128, 7}, {2 | 8 | 128, 7}, {2 | 1, 17}, {2 | 4, 17}, {2 | 16, 17}, {2 | 64, 17}, {-1, 7}};
        for (int[] each : modifiersAndSize) {
            StreamIds x = withClass(0);
            Check.field(x, 0, "f", "I", each[0]);
            CHECK.due("size with a field of " + each[0], x.size(0), each[1]);
            CHECK.due("fields", x.count(0, 2), 1);
        }
    }

    private static void startOrNot() {
        CHECK.sentence("if there is the START: UTF of '<clinit>', 8 as a number, UTF of '()V'");
        for (int modifiers : new int[] {0, 1, 2, 8, -1}) {
            StreamIds x = withClass(0);
            bytes("without it", x, HEAD);
            x.member(0, 3, modifiers);
            bytes("with it", x, HEAD + "{00}{08}<clinit>{00}{00}{00}{08}{00}{03}()V");
            x.remove(0, 3);
            bytes("without it again", x, HEAD);
        }
    }

    private static void privateCalls() {
        CHECK.sentence("of each CONSTRUCTOR that is not private; of each METHOD that is not private");
        for (int others : new int[] {0, 1, 4, 8, 16384}) {
            StreamIds x = withClass(0);
            Check.constructor(x, 0, "()V", 2 | others);
            Check.method(x, 0, "m", "()V", 2 | others);
            bytes("private ones", x, HEAD);
            CHECK.due("how many", x.count(0, 1), 2);
            Check.constructor(x, 0, "(I)V", others);
            CHECK.due("a constructor that is not", x.size(0), 7 + 8 + 4 + 6);
            Check.method(x, 0, "n", "()V", others);
            CHECK.due("a method that is not", x.size(0), 25 + 3 + 4 + 5);
        }
    }

    private static void dotsForSlashes() {
        CHECK.sentence("UTF of the SHAPE with '.' for each '/'");
        StreamIds x = withClass(0);
        Check.field(x, 0, "a/b", "L/a//b/;", 0);
        Check.constructor(x, 0, "(L/a//b/;)V", 0);
        Check.method(x, 0, "a/b", "(L/;)L/a/;", 0);
        bytes("slashes", x, HEAD + "{00}{03}a/b{00}{00}{00}{00}{00}{08}L/a//b/;"
                + "{00}{06}<init>{00}{00}{00}{00}{00}{0b}(L.a..b.;)V"
                + "{00}{03}a/b{00}{00}{00}{00}{00}{0a}(L.;)L.a.;");
    }

    /** A class of so many bytes, from 7 to 134, of which interface names are the most. */
    private static StreamIds ofSize(int size) {
        int nameLength = size < 60 ? 1 : 24;
        int rest = size - nameLength - 6;
        // A name takes three bytes at least, so a name that would leave fewer is made shorter.
        StreamIds x = new StreamIds();
        Check.define(x, 0, LONGEST.substring(0, nameLength), 0);
        for (int i = 0; i < 4 && rest > 2; i++) {
            int take = Math.min(26, rest);
            take -= rest - take == 1 || rest - take == 2 ? 3 : 0;
            Check.face(x, 0, (char) ('a' + i) + LONGEST.substring(0, take - 3));
            rest -= take;
        }
        return x;
    }

    private static void hashIsDue(StreamIds x, String what) {
        ByteBuffer due = ByteBuffer.wrap(Oracle.sha(Check.bytes(x, 0)));
        for (int k = 0; k < 5; k++) {
            CHECK.due("hash " + k + " of " + what, x.hash(0, k), due.getInt(4 * k));
        }
    }

    private static void padding() {
        CHECK.sentence("by as few bytes 00 as make the number of bytes 56 modulo 64");
        for (int size : new int[] {7, 31, 32, 54, 55, 56, 57, 62, 63, 64, 65, 118, 119, 120, 121, 127, 128}) {
            StreamIds x = ofSize(size);
            CHECK.due("size", x.size(0), size);
            hashIsDue(x, size + " bytes");
        }
    }

    private static StreamIds longest() {
        StreamIds x = new StreamIds();
        Check.define(x, 0, LONGEST, 0);
        for (int i = 0; i < 4; i++) {
            Check.face(x, 0, LONGEST.substring(1) + i);
        }
        for (int i = 0; i < 10; i++) {
            Check.field(x, 0, LONGEST.substring(1) + i, "Labcdefghijklmnopqrstuv;", 0);
        }
        return x;
    }

    private static byte[] longestBytes() {
        ByteBuffer all = ByteBuffer.allocate(694);
        all.putShort((short) 24).put(LONGEST.getBytes()).putInt(0);
        for (int i = 0; i < 4; i++) {
            all.putShort((short) 24).put((LONGEST.substring(1) + i).getBytes());
        }
        for (int i = 0; i < 10; i++) {
            all.putShort((short) 24).put((LONGEST.substring(1) + i).getBytes()).putInt(0);
            all.putShort((short) 24).put("Labcdefghijklmnopqrstuv;".getBytes());
        }
        return all.array();
    }

    private static void manyBytes() {
        CHECK.sentence("and by 8 n as 8 bytes (of the most bytes that a class can have)");
        StreamIds x = longest();
        ByteBuffer due = ByteBuffer.wrap(Oracle.sha(longestBytes()));
        for (int k = 0; k < 5; k++) {
            CHECK.due("hash " + k, x.hash(0, k), due.getInt(4 * k));
        }
    }

    private static void wrapping() {
        CHECK.sentence("With the ints (all wrapping) H0 .. H4; turned left by 1 bit, by 5, by 30");
        for (char sign = 33; sign <= 126; sign++) {
            StreamIds x = new StreamIds();
            Check.define(x, 0, "" + sign, 1);
            Check.face(x, 0, LONGEST.replace('a', sign));
            Check.face(x, 0, LONGEST.replace('x', sign));
            hashIsDue(x, "names with " + sign);
        }
    }

    private static void whichIdentifier() {
        CHECK.sentence("0 if its MODIFIERS have 16384; else the DECLARED one if there is one; else ..");
        for (int modifiers : new int[] {16384, 16385, 65535, -1}) {
            StreamIds x = withClass(modifiers);
            CHECK.due("id with " + modifiers, x.id(0), 0);
            x.declare(0, true, 5);
            CHECK.due("id with one declared", x.id(0), 0);
        }
        for (int modifiers : new int[] {0, 8192, 32768, 49151, 1 << 30, 16384 << 16}) {
            StreamIds x = withClass(modifiers);
            long computed = x.id(0);
            CHECK.due("id with " + modifiers, computed, idOf(Check.bytes(x, 0)));
            x.declare(0, true, 0);
            CHECK.due("id with 0 declared", x.id(0), 0);
            x.declare(0, true, NONE);
            CHECK.due("id with NONE declared", x.id(0), NONE);
            x.declare(0, false, 3);
            CHECK.due("id with none declared", x.id(0), computed);
        }
        for (int number : new int[] {-1, 1, 3, 4, LEAST, MOST}) {
            CHECK.due("id(" + number + ")", withClass(0).id(number), NONE);
        }
    }

    private static long idOf(byte[] bytes) {
        long id = 0;
        for (int i = 7; i >= 0; i--) {
            id = id * 256 + Byte.toUnsignedInt(Oracle.sha(bytes)[i]);
        }
        return id;
    }

    /** Enough names that each of the eight bytes is 00, 7f, 80 and ff in one hash at least. */
    private static void bytesOfIdentifier() {
        CHECK.sentence("the HASH's byte 7 as its highest byte, byte 6 next, .., byte 0 as its lowest");
        boolean[] met = new boolean[8 * 256];
        for (int i = 0; i < 4000; i++) {
            byte[] bytes = {0, 2, (byte) (33 + i % 94), (byte) (33 + i / 94), 0, 0, 0, 0};
            StreamIds x = new StreamIds();
            x.type(0, bytes[2] << 8 | bytes[3]);
            x.define(0, 0);
            CHECK.due("id", x.id(0), idOf(bytes));
            byte[] hash = Oracle.sha(bytes);
            for (int place = 0; place < 8; place++) {
                met[place * 256 + Byte.toUnsignedInt(hash[place])] = true;
            }
        }
        for (int place = 0; place < 8; place++) {
            for (int value : new int[] {0, 127, 128, 255}) {
                CHECK.due("byte " + place + " was " + value, "" + met[place * 256 + value], "true");
            }
        }
    }

    private static void whichNumberOfHash() {
        CHECK.sentence("Number k, 0 .. 4, of the HASH .. as an int, told as a long; NONE for a bad number.");
        StreamIds x = withClass(0);
        hashIsDue(x, "the shortest");
        for (int k : new int[] {-1, 5, 6, LEAST, MOST}) {
            CHECK.due("hash(0, " + k + ")", x.hash(0, k), NONE);
        }
        for (int number : new int[] {-1, 1, 3, 4, LEAST, MOST}) {
            CHECK.due("hash(" + number + ", 4)", x.hash(number, 4), NONE);
        }
        long most = 0;
        long least = 0;
        for (int k = 0; k < 5; k++) {
            most = Math.max(most, x.hash(0, k));
            least = Math.min(least, x.hash(0, k));
        }
        CHECK.due("a number above 0 and one below were met", "" + (most > 0 && least < 0), "true");
    }

    private static void sizes() {
        CHECK.sentence("How many BYTES.");
        CHECK.due("the fewest", withClass(0).size(0), 7);
        CHECK.due("the most", longest().size(0), 694);
        for (int number : new int[] {-1, 1, 3, 4, LEAST, MOST}) {
            CHECK.due("size(" + number + ")", withClass(0).size(number), REFUSED);
        }
    }

    private static void bytesAtTheEnds() {
        CHECK.sentence("Byte i, from 0, of the BYTES; REFUSED if there is none.");
        StreamIds x = withClass(17);
        CHECK.due("the first", x.byteAt(0, 0), 0);
        CHECK.due("the second", x.byteAt(0, 1), 1);
        CHECK.due("the last", x.byteAt(0, 6), 17);
        for (int i : new int[] {-1, 7, 8, 255, 693, 694, LEAST, MOST}) {
            CHECK.due("byteAt(0, " + i + ")", x.byteAt(0, i), REFUSED);
        }
        for (int number : new int[] {-1, 1, 3, 4, LEAST, MOST}) {
            CHECK.due("byteAt(" + number + ", 0)", x.byteAt(number, 0), REFUSED);
        }
        StreamIds y = longest();
        CHECK.due("the last of the most", y.byteAt(0, 693), ';');
        CHECK.due("none behind it", y.byteAt(0, 694), REFUSED);
    }

    private static void bytesThatAreGone() {
        CHECK.sentence("REFUSED if there is none (any more, or of this class).");
        StreamIds x = withClass(0);
        Check.field(x, 0, "f", "I", 0);
        CHECK.due("the last", x.byteAt(0, 16), 'I');
        Check.remove(x, 0, 0, "f", "");
        CHECK.due("it is gone", x.byteAt(0, 16), REFUSED);
        Check.define(x, 1, "longer", 0);
        CHECK.due("the last of the longer class", x.byteAt(1, 11), 0);
        CHECK.due("none of the shorter one", x.byteAt(0, 7), REFUSED);
    }

    private static void partsAre(String what, StreamIds x, int... due) {
        for (int k = 0; k < due.length; k++) {
            CHECK.due(what + ": part " + k, x.part(0, k), due[k]);
        }
    }

    private static void whichParts() {
        CHECK.sentence("0 the name, 1 interfaces, 2 FIELDS, 3 START, 4 CONSTRUCTORS, 5 METHODS; else REFUSED");
        StreamIds x = withClass(0);
        Check.face(x, 0, "F");
        Check.field(x, 0, "f", "I", 0);
        Check.start(x, 0);
        Check.constructor(x, 0, "()V", 0);
        Check.method(x, 0, "m", "()V", 0);
        partsAre("one of each", x, 0, 7, 10, 20, 39, 56);
        for (int k : new int[] {-1, 6, 7, LEAST, MOST}) {
            CHECK.due("part(0, " + k + ")", x.part(0, k), REFUSED);
        }
        for (int number : new int[] {-1, 1, 3, 4, LEAST, MOST}) {
            CHECK.due("part(" + number + ", 5)", x.part(number, 5), REFUSED);
        }
        partsAre("the longest", longest(), 0, 30, 134, 694, 694, 694);
    }

    private static void partsWithoutBytes() {
        CHECK.sentence("(A part without bytes begins where the next one does.)");
        partsAre("a bare class", withClass(0), 0, 7, 7, 7, 7, 7);
        StreamIds x = withClass(0);
        Check.field(x, 0, "f", "I", 10);
        Check.constructor(x, 0, "()V", 2);
        Check.method(x, 0, "m", "()V", 2);
        partsAre("hidden members alone", x, 0, 7, 7, 7, 7, 7);
        Check.start(x, 0);
        partsAre("the start alone", x, 0, 7, 7, 7, 26, 26);
        x = withClass(0);
        Check.face(x, 0, "F");
        partsAre("an interface alone", x, 0, 7, 10, 10, 10, 10);
        x = withClass(0);
        Check.field(x, 0, "f", "I", 0);
        partsAre("a field alone", x, 0, 7, 7, 17, 17, 17);
        x = withClass(0);
        Check.constructor(x, 0, "()V", 0);
        partsAre("a constructor alone", x, 0, 7, 7, 7, 7, 24);
        x = withClass(0);
        Check.method(x, 0, "m", "()V", 0);
        partsAre("a method alone", x, 0, 7, 7, 7, 7, 7);
        CHECK.due("its size", x.size(0), 19);
    }

    private static void countsAre(String what, StreamIds x, int number, int... due) {
        for (int k = 0; k < due.length; k++) {
            CHECK.due(what + ": count " + k, x.count(number, k), due[k]);
        }
    }

    private static void whichCounts() {
        CHECK.sentence("What: 0 interface names; .. 7: 1 if an identifier is DECLARED, else 0. Else REFUSED.");
        StreamIds x = Twins.withPast();
        countsAre("some of each", x, 0, 2, 6, 2, 1, 2, 1, 17, 0);
        countsAre("the most", x, 1, 4, 10, 8, 1, 1, 0, 512, 1);
        for (int what : new int[] {-1, 8, 9, LEAST, MOST}) {
            CHECK.due("count(0, " + what + ")", x.count(0, what), REFUSED);
        }
        for (int number : new int[] {-1, 3, 4, LEAST, MOST}) {
            for (int what = 0; what < 8; what++) {
                CHECK.due("count(" + number + ", " + what + ")", x.count(number, what), REFUSED);
            }
        }
    }

    private static void countsOfNothing() {
        CHECK.sentence("5 whether the START is there, 1 or 0; 6 MODIFIERS as they were given, as far as kept");
        StreamIds x = Twins.withPast();
        countsAre("nothing", x, 2, 0, 0, 0, 0, 0, 0, 0, 0);
        Check.start(x, 2);
        countsAre("the start", x, 2, 0, 1, 0, 0, 0, 1, 0, 0);
        Check.remove(x, 2, 3, "", "");
        countsAre("no start", x, 2, 0, 0, 0, 0, 0, 0, 0, 0);
        Check.define(x, 2, "I", -1);
        countsAre("all modifiers", x, 2, 0, 0, 0, 0, 0, 0, 65535, 0);
        Check.define(x, 2, "I", 512 | 1024);
        Check.method(x, 2, "m", "()V", 0);
        countsAre("an interface", x, 2, 0, 1, 0, 0, 1, 0, 1536, 0);
        Check.remove(x, 2, 2, "m", "()V");
        countsAre("an interface without methods", x, 2, 0, 0, 0, 0, 0, 0, 1536, 0);
    }

    private static void facesHoweverTheyCame() {
        CHECK.sentence("Interface names stand in the BYTES in the order of texts, however they came.");
        String[] names = {"a", "aa", "b", "c"};
        for (int order = 0; order < 256; order++) {
            StreamIds x = withClass(0);
            for (int i = 0; i < 4; i++) {
                Check.face(x, 0, names[order >> 2 * i & 3]);
            }
            if (x.count(0, 0) == 4) {
                bytes("order " + order, x, HEAD + "{00}{01}a{00}{02}aa{00}{01}b{00}{01}c");
            }
        }
    }

    private static void bytesAbove127() {
        CHECK.sentence("A byte is told as 0 to 255 by byteAt.");
        for (int modifiers = 0; modifiers < 256; modifiers++) {
            if ((modifiers & (2 | 32)) == 0) {
                StreamIds x = withClass(0);
                Check.field(x, 0, "f", "I", modifiers);
                CHECK.due("the number's lowest byte", x.byteAt(0, 13), modifiers);
            }
        }
    }

    private static void comma() {
        CHECK.sentence("the five ; [ ( ) and the dot: a comma may");
        StreamIds x = withClass(0);
        CHECK.due("a field with a comma", Check.field(x, 0, "a", "L,;", 0), 1);
        CHECK.due("a method with a comma", Check.method(x, 0, "a", "(La,b;)L,,;", 0), 2);
        for (String sign : new String[] {";", "[", "(", ")", "."}) {
            CHECK.due("a field with " + sign, Check.field(x, 0, "b", "La" + sign + "b;", 0), StreamIds.BAD);
            CHECK.due("a method with " + sign, Check.method(x, 0, "b", "(La" + sign + "b;)V", 0),
                    StreamIds.BAD);
        }
        CHECK.due("how many", x.count(0, 1), 2);
    }
}
