/**
 * The last paragraph of the Terms, sentence by sentence: numbers are tested first, then what a
 * call's comment says in its order, and an answer of REFUSED, NONE, BAD, TWICE or FULL changes
 * nothing.
 */
public final class RefusedCallsTest {
    private static final Check CHECK = new Check();
    private static final Twins TWINS = new Twins(CHECK);
    private static final int REFUSED = StreamIds.REFUSED;
    private static final int BAD = StreamIds.BAD;
    private static final int TWICE = StreamIds.TWICE;
    private static final int FULL = StreamIds.FULL;
    private static final long NONE = StreamIds.NONE;
    private static final int LEAST = Integer.MIN_VALUE;
    private static final int MOST = Integer.MAX_VALUE;
    private static final String LONG_NAME = "abcdefghijklmnopqrstuvwx";
    private static final String LONG_SHAPE = "(IIIIIIIIIIIIIIIIIIIII)V";

    public static void main(String[] args) {
        wrongBuffers();
        wrongClasses();
        wrongClassToDefine();
        wrongKinds();
        wrongPlaces();
        wrongSigns();
        tooManySigns();
        badNames();
        badShapes();
        badRemovals();
        twice();
        full();
        numbersBeforeAll();
        signsBeforeRoom();
        badBeforeTwiceAndFull();
        twiceBeforeFull();
        CHECK.end();
    }

    private static void numbersOutOfRange() {
        CHECK.sentence("Numbers out of range answer REFUSED (NONE if a long); these .. change nothing.");
    }

    private static void wrongBuffers() {
        numbersOutOfRange();
        for (int buffer : new int[] {-1, 2, 3, LEAST, MOST}) {
            unchanged("type(" + buffer + ", 'a')", x -> x.type(buffer, 'a'), REFUSED);
            unchanged("clear(" + buffer + ")", x -> x.clear(buffer), REFUSED);
        }
    }

    private static void wrongClasses() {
        CHECK.sentence("a class that is not there is out of range but where it is made");
        for (int number : new int[] {-1, 3, 4, LEAST, MOST}) {
            unchanged("face(" + number + ")", x -> x.face(number), REFUSED);
            for (int kind = 0; kind < 4; kind++) {
                int each = kind;
                unchanged("member(" + number + ", " + kind + ", 1)", x -> x.member(number, each, 1), REFUSED);
                unchanged("remove(" + number + ", " + kind + ")", x -> x.remove(number, each), REFUSED);
            }
            unchanged("declare(" + number + ", true, 5)", x -> x.declare(number, true, 5), REFUSED);
            unchanged("declare(" + number + ", false, 5)", x -> x.declare(number, false, 5), REFUSED);
            unchanged("id(" + number + ")", x -> x.id(number), NONE);
            unchanged("hash(" + number + ", 0)", x -> x.hash(number, 0), NONE);
            unchanged("size(" + number + ")", x -> x.size(number), REFUSED);
            unchanged("byteAt(" + number + ", 0)", x -> x.byteAt(number, 0), REFUSED);
            unchanged("part(" + number + ", 0)", x -> x.part(number, 0), REFUSED);
            unchanged("count(" + number + ", 0)", x -> x.count(number, 0), REFUSED);
        }
        StreamIds x = Twins.withPast();
        CHECK.due("the class that is not there is made", Check.define(x, 3, "New", 0), StreamIds.DONE);
        CHECK.due("its size", x.size(3), 9);
    }

    private static void wrongClassToDefine() {
        numbersOutOfRange();
        for (int number : new int[] {-1, 4, LEAST, MOST}) {
            unchanged("define(" + number + ", 1)", x -> x.define(number, 1), REFUSED);
        }
    }

    private static void wrongKinds() {
        numbersOutOfRange();
        for (int kind : new int[] {-1, 4, 5, LEAST, MOST}) {
            unchanged("member(0, " + kind + ", 1)", x -> x.member(0, kind, 1), REFUSED);
            unchanged("remove(0, " + kind + ")", x -> x.remove(0, kind), REFUSED);
        }
    }

    private static void wrongPlaces() {
        numbersOutOfRange();
        int size = Twins.withPast().size(0);
        for (int i : new int[] {-1, size, size + 1, LEAST, MOST}) {
            unchanged("byteAt(0, " + i + ")", x -> x.byteAt(0, i), REFUSED);
        }
        for (int k : new int[] {-1, 5, LEAST, MOST}) {
            unchanged("hash(0, " + k + ")", x -> x.hash(0, k), NONE);
        }
        for (int k : new int[] {-1, 6, LEAST, MOST}) {
            unchanged("part(0, " + k + ")", x -> x.part(0, k), REFUSED);
        }
        for (int what : new int[] {-1, 8, LEAST, MOST}) {
            unchanged("count(0, " + what + ")", x -> x.count(0, what), REFUSED);
        }
    }

    private static void unchanged(String what, Twins.Step call, long due) {
        TWINS.unchangedBy(what, "New", "La;", call, due);
    }

    private static void wrongSigns() {
        CHECK.sentence("One is none of 33 .. 126: REFUSED. (.. change nothing)");
        for (int buffer = 0; buffer < 2; buffer++) {
            int each = buffer;
            unchanged("a blank behind a sign", x -> x.type(each, 'a' << 8 | 32), REFUSED);
            unchanged("127 before a sign", x -> x.type(each, 127 << 8 | 'a'), REFUSED);
            unchanged("all bits", x -> x.type(each, -1L), REFUSED);
        }
    }

    private static void tooManySigns() {
        CHECK.sentence("It would be too long: FULL. (.. change nothing)");
        for (int buffer = 0; buffer < 2; buffer++) {
            int each = buffer;
            TWINS.unchangedBy("a sign more", LONG_NAME, LONG_SHAPE, x -> x.type(each, 'a'), FULL);
            String name = LONG_NAME.substring(1);
            String shape = LONG_SHAPE.replaceFirst("I", "");
            TWINS.unchangedBy("two signs more", name, shape, x -> x.type(each, 'a' << 8 | 'b'), FULL);
        }
    }

    private static void badNames() {
        CHECK.sentence("these and BAD .. change nothing (NAME is empty)");
        for (int number = 0; number < 4; number++) {
            int each = number;
            TWINS.unchangedBy("define(" + number + ", 2)", "", "I", x -> x.define(each, 2), BAD);
        }
        for (int number = 0; number < 3; number++) {
            int each = number;
            TWINS.unchangedBy("face(" + number + ")", "", "I", x -> x.face(each), BAD);
            TWINS.unchangedBy("a field of " + number, "", "I", x -> x.member(each, 0, 0), BAD);
            TWINS.unchangedBy("a method of " + number, "", "()V", x -> x.member(each, 2, 0), BAD);
        }
    }

    private static void badShapes() {
        CHECK.sentence("these and BAD .. change nothing (SHAPE is none for its kind)");
        for (int number = 0; number < 3; number++) {
            int each = number;
            TWINS.unchangedBy("a field of " + number, "n", "()V", x -> x.member(each, 0, 0), BAD);
            TWINS.unchangedBy("a constructor of " + number, "n", "()I", x -> x.member(each, 1, 0), BAD);
            TWINS.unchangedBy("a method of " + number, "n", "I", x -> x.member(each, 2, 0), BAD);
            for (int kind = 0; kind < 3; kind++) {
                int one = kind;
                TWINS.unchangedBy("no shape for " + kind, "n", "", x -> x.member(each, one, 0), BAD);
            }
        }
    }

    private static void badRemovals() {
        CHECK.sentence("there is none: BAD. (.. change nothing)");
        TWINS.unchangedBy("no such field", "z", "I", x -> x.remove(0, 0), BAD);
        TWINS.unchangedBy("no such constructor", "x", "(J)V", x -> x.remove(0, 1), BAD);
        TWINS.unchangedBy("no such method", "go", "()V", x -> x.remove(0, 2), BAD);
        TWINS.unchangedBy("no start", "m", "()V", x -> x.remove(1, 3), BAD);
        for (int kind = 0; kind < 4; kind++) {
            int each = kind;
            TWINS.unchangedBy("no member at all", "x", "(I)V", x -> x.remove(2, each), BAD);
        }
    }

    private static void twice() {
        CHECK.sentence("these and .. TWICE .. change nothing");
        TWINS.unchangedBy("an interface", "G", "I", x -> x.face(0), TWICE);
        TWINS.unchangedBy("a field", "x", "J", x -> x.member(0, 0, 4), TWICE);
        TWINS.unchangedBy("a hidden field", "hidden", "I", x -> x.member(0, 0, 0), TWICE);
        TWINS.unchangedBy("a constructor", "other", "(I)V", x -> x.member(0, 1, 1), TWICE);
        TWINS.unchangedBy("a method", "go", "(La/b;)V", x -> x.member(0, 2, 0), TWICE);
        TWINS.unchangedBy("a private method", "own", "()I", x -> x.member(0, 2, 1), TWICE);
        TWINS.unchangedBy("the start", "other", "I", x -> x.member(0, 3, 1), TWICE);
    }

    private static void full() {
        CHECK.sentence("these and .. FULL change nothing");
        TWINS.unchangedBy("a first interface", "A", "I", x -> x.face(1), FULL);
        TWINS.unchangedBy("a last interface", "Z", "I", x -> x.face(1), FULL);
        TWINS.unchangedBy("a first field", "A", "I", x -> x.member(1, 0, 0), FULL);
        TWINS.unchangedBy("a last field", "z", "I", x -> x.member(1, 0, 0), FULL);
        TWINS.unchangedBy("a constructor", "A", "(I)V", x -> x.member(1, 1, 0), FULL);
        TWINS.unchangedBy("a method", "z", "(I)V", x -> x.member(1, 2, 0), FULL);
        TWINS.unchangedBy("the start", "", "", x -> x.member(1, 3, 0), FULL);
    }

    private static void numbersBeforeAll() {
        CHECK.sentence("Every call tests its numbers first");
        TWINS.unchangedBy("define(4, 0)", "", "", x -> x.define(4, 0), REFUSED);
        TWINS.unchangedBy("face(3)", "", "", x -> x.face(3), REFUSED);
        TWINS.unchangedBy("member(3, 0, 0)", "", "", x -> x.member(3, 0, 0), REFUSED);
        TWINS.unchangedBy("member(0, 4, 0)", "", "", x -> x.member(0, 4, 0), REFUSED);
        TWINS.unchangedBy("member(1, 4, 0), it has ten", "a", "I", x -> x.member(1, 4, 0), REFUSED);
        TWINS.unchangedBy("remove(3, 0)", "", "", x -> x.remove(3, 0), REFUSED);
        TWINS.unchangedBy("remove(0, 4)", "", "", x -> x.remove(0, 4), REFUSED);
        TWINS.unchangedBy("type(2, a blank)", "", "", x -> x.type(2, 32), REFUSED);
        TWINS.unchangedBy("hash(3, 5)", "", "", x -> x.hash(3, 5), NONE);
        TWINS.unchangedBy("part(3, 6)", "", "", x -> x.part(3, 6), REFUSED);
        TWINS.unchangedBy("count(3, 8)", "", "", x -> x.count(3, 8), REFUSED);
    }

    private static void inThatOrder() {
        CHECK.sentence("then what its comment says, in that order");
    }

    private static void signsBeforeRoom() {
        inThatOrder();
        for (int buffer = 0; buffer < 2; buffer++) {
            int each = buffer;
            TWINS.unchangedBy("a blank for a full buffer", LONG_NAME, LONG_SHAPE,
                    x -> x.type(each, 32), REFUSED);
            TWINS.unchangedBy("a wrong sign behind too many", LONG_NAME, LONG_SHAPE,
                    x -> x.type(each, 'a' << 8 | 127), REFUSED);
        }
    }

    private static void badBeforeTwiceAndFull() {
        inThatOrder();
        TWINS.unchangedBy("no name for a fifth interface", "", "", x -> x.face(1), BAD);
        TWINS.unchangedBy("no shape for a field again", "a", "V", x -> x.member(1, 0, 0), BAD);
        TWINS.unchangedBy("no shape for an eleventh", "z", "V", x -> x.member(1, 0, 0), BAD);
        TWINS.unchangedBy("no name for an eleventh", "", "(I)V", x -> x.member(1, 2, 0), BAD);
        TWINS.unchangedBy("an eleventh that answers", "", "()I", x -> x.member(1, 1, 0), BAD);
    }

    private static void twiceBeforeFull() {
        inThatOrder();
        TWINS.unchangedBy("a fifth interface that it has", "I", "", x -> x.face(1), TWICE);
        TWINS.unchangedBy("an eleventh field that it has", "h", "I", x -> x.member(1, 0, 0), TWICE);
        TWINS.unchangedBy("a constructor that it has", "", "()V", x -> x.member(1, 1, 0), TWICE);
        TWINS.unchangedBy("a method that it has", "m", "()V", x -> x.member(1, 2, 0), TWICE);
        StreamIds x = Twins.withPast();
        Check.remove(x, 1, 0, "a", "");
        CHECK.due("the start as the tenth", Check.start(x, 1), 10);
        CHECK.due("the start as an eleventh", Check.start(x, 1), TWICE);
    }
}
