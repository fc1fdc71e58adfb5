/** The Terms of classes and promises 4 to 8, sentence by sentence: their edges. */
public final class DeclarationEdgesTest {
    private static final Check CHECK = new Check();
    private static final int REFUSED = StreamIds.REFUSED;
    private static final int BAD = StreamIds.BAD;
    private static final int TWICE = StreamIds.TWICE;
    private static final int FULL = StreamIds.FULL;
    private static final int DONE = StreamIds.DONE;
    private static final String LONGEST = "abcdefghijklmnopqrstuvwx";
    private static final int[] NO_NUMBERS = {-1, 4, Integer.MIN_VALUE, Integer.MAX_VALUE};

    public static void main(String[] args) {
        whichClasses();
        notThereAtFirst();
        bitsOfClasses();
        bitsOfMembers();
        onlyOneStart();
        fieldsOfOneName();
        constructorsOfOneShape();
        methodsAlike();
        definedAnew();
        namesOfClasses();
        emptyFaces();
        facesTwice();
        fourFaces();
        howManyFaces();
        whichKinds();
        emptyNames();
        namesNotLookedAt();
        shapesNotLookedAt();
        tenMembers();
        everyKindAsEleventh();
        removedAsFarAsTheyCount();
        noneToRemove();
        howManyAreLeft();
        removedFromTen();
        declared();
        notOn();
        CHECK.end();
    }

    private static StreamIds withClass() {
        StreamIds x = new StreamIds();
        Check.define(x, 0, "C", 0);
        return x;
    }

    private static StreamIds withTen() {
        StreamIds x = withClass();
        for (int i = 0; i < 10; i++) {
            Check.field(x, 0, "f" + i, "I", 0);
        }
        return x;
    }

    private static void whichClasses() {
        CHECK.sentence("CLASSES 0 .. 3; Class 0 .. 3 is there");
        for (int number = 0; number < 4; number++) {
            StreamIds x = new StreamIds();
            CHECK.due("define(" + number + ")", Check.define(x, number, "C", 0), DONE);
            for (int other = 0; other < 4; other++) {
                CHECK.due("size(" + other + ")", x.size(other), other == number ? 7 : REFUSED);
            }
        }
        for (int number : NO_NUMBERS) {
            StreamIds x = new StreamIds();
            CHECK.due("define(" + number + ")", Check.define(x, number, "C", 0), REFUSED);
            CHECK.due("size(" + number + ")", x.size(number), REFUSED);
        }
    }

    private static void notThereAtFirst() {
        CHECK.sentence("CLASSES .. are there or not (not at first)");
        StreamIds x = new StreamIds();
        x.type(0, 'C');
        for (int number = 0; number < 4; number++) {
            CHECK.due("face of a class to come", x.face(number), REFUSED);
            CHECK.due("define", x.define(number, 0), DONE);
            CHECK.due("face of a class that is there", x.face(number), 1);
        }
    }

    private static void bitsOfClasses() {
        CHECK.sentence("bits beyond 15 are not kept (of a class)");
        int[][] givenAndKept = {{0, 0}, {1, 1}, {32768, 32768}, {65535, 65535}, {65536, 0},
            {65537, 1}, {-1, 65535}, {-65536, 0}, {1 << 30, 0}, {Integer.MIN_VALUE, 0},
            {Integer.MAX_VALUE, 65535}};
        for (int[] each : givenAndKept) {
            StreamIds x = new StreamIds();
            CHECK.due("define with " + each[0], Check.define(x, 0, "C", each[0]), DONE);
            CHECK.due("kept of " + each[0], x.count(0, 6), each[1]);
        }
    }

    private static void bitsOfMembers() {
        CHECK.sentence("bits beyond 15 are not kept (of a MEMBER)");
        for (int bit = 16; bit < 32; bit++) {
            StreamIds x = withClass();
            CHECK.due("a field", Check.field(x, 0, "f", "I", 1 << bit), 1);
            CHECK.due("a constructor", Check.constructor(x, 0, "()V", 1 << bit), 2);
            CHECK.due("a method", Check.method(x, 0, "m", "()V", 1 << bit), 3);
            CHECK.due("the bytes with bit " + bit, Check.readable(Check.bytes(x, 0)),
                    "{00}{01}C{00}{00}{00}{00}{00}{01}f{00}{00}{00}{00}{00}{01}I"
                    + "{00}{06}<init>{00}{00}{00}{00}{00}{03}()V{00}{01}m{00}{00}{00}{00}{00}{03}()V");
        }
    }

    private static void onlyOneStart() {
        CHECK.sentence("or the START (only one)");
        StreamIds x = withClass();
        CHECK.due("the start", Check.start(x, 0), 1);
        CHECK.due("another", Check.start(x, 0), TWICE);
        Twins.putTexts(x, "other", "()I");
        CHECK.due("another, with other buffers and modifiers", x.member(0, 3, 1), TWICE);
        CHECK.due("there is one", x.count(0, 5), 1);
        Check.define(x, 1, "D", 0);
        CHECK.due("another class has its own", Check.start(x, 1), 1);
    }

    private static void fieldsOfOneName() {
        CHECK.sentence("No two FIELDS have one name");
        StreamIds x = withClass();
        CHECK.due("a field", Check.field(x, 0, "a", "I", 0), 1);
        CHECK.due("one name, one shape", Check.field(x, 0, "a", "I", 0), TWICE);
        CHECK.due("one name, another shape", Check.field(x, 0, "a", "J", 0), TWICE);
        CHECK.due("one name, other modifiers", Check.field(x, 0, "a", "I", 10), TWICE);
        CHECK.due("a name that begins with it", Check.field(x, 0, "ab", "I", 0), 2);
        CHECK.due("the name in upper case", Check.field(x, 0, "A", "I", 0), 3);
        CHECK.due("a method of that name", Check.method(x, 0, "a", "()I", 0), 4);
        CHECK.due("the longest name", Check.field(x, 0, LONGEST, "I", 0), 5);
        CHECK.due("one with another last sign", Check.field(x, 0, "abcdefghijklmnopqrstuvwy", "I", 0), 6);
        CHECK.due("the longest name again", Check.field(x, 0, LONGEST, "J", 0), TWICE);
    }

    private static void constructorsOfOneShape() {
        CHECK.sentence("no two CONSTRUCTORS one SHAPE");
        StreamIds x = withClass();
        CHECK.due("a constructor", Check.constructor(x, 0, "()V", 0), 1);
        CHECK.due("one shape", Check.constructor(x, 0, "()V", 2), TWICE);
        Twins.putTexts(x, "other", "()V");
        CHECK.due("one shape, another NAME", x.member(0, 1, 0), TWICE);
        CHECK.due("another shape, that NAME", member(x, 1, "other", "(I)V"), 2);
        CHECK.due("a method of that shape", Check.method(x, 0, "m", "()V", 0), 3);
        CHECK.due("the longest shape", Check.constructor(x, 0, "(IIIIIIIIIIIIIIIIIIIII)V", 0), 4);
        CHECK.due("another long shape", Check.constructor(x, 0, "(IIIIIIIIIIIIIIIIIIIIJ)V", 0), 5);
        CHECK.due("the longest again", Check.constructor(x, 0, "(IIIIIIIIIIIIIIIIIIIII)V", 0), TWICE);
    }

    private static void methodsAlike() {
        CHECK.sentence("no two METHODS name and SHAPE alike");
        StreamIds x = withClass();
        CHECK.due("a method", Check.method(x, 0, "a", "()V", 0), 1);
        CHECK.due("name and shape alike", Check.method(x, 0, "a", "()V", 2), TWICE);
        CHECK.due("another answer", Check.method(x, 0, "a", "()I", 0), 2);
        CHECK.due("other types", Check.method(x, 0, "a", "(I)V", 0), 3);
        CHECK.due("another name", Check.method(x, 0, "b", "()V", 0), 4);
        CHECK.due("a name that begins with it", Check.method(x, 0, "ab", "()V", 0), 5);
        CHECK.due("a field of that name", Check.field(x, 0, "a", "I", 0), 6);
        CHECK.due("a constructor of that shape", Check.constructor(x, 0, "()V", 0), 7);
        CHECK.due("the last one again", Check.method(x, 0, "b", "()V", 0), TWICE);
    }

    private static int member(StreamIds x, int kind, String name, String shape) {
        Twins.putTexts(x, name, shape);
        return x.member(0, kind, 0);
    }

    private static void definedAnew() {
        CHECK.sentence("(anew, without interfaces, MEMBERS, DECLARED, if it was)");
        StreamIds x = Twins.withPast();
        long otherId = x.id(0);
        CHECK.due("define of a full class", Check.define(x, 1, "New", 4), DONE);
        int[] due = {0, 0, 0, 0, 0, 0, 4, 0};
        for (int what = 0; what < 8; what++) {
            CHECK.due("count(1, " + what + ")", x.count(1, what), due[what]);
        }
        CHECK.due("its bytes", Check.readable(Check.bytes(x, 1)), "{00}{03}New{00}{00}{00}{00}");
        CHECK.due("the other class", x.id(0), otherId);
        CHECK.due("what it had is no twice", Check.face(x, 1, "F"), 1);
        for (int i = 1; i <= 10; i++) {
            CHECK.due("there is room for ten", Check.field(x, 1, "g" + i, "I", 0), i);
        }
        CHECK.due("and for no more", Check.field(x, 1, "a", "I", 0), FULL);
    }

    private static void namesOfClasses() {
        CHECK.sentence("with the name in NAME, which must not be empty (BAD)");
        StreamIds x = new StreamIds();
        Check.put(x, 1, "C");
        CHECK.due("define without a name", x.define(0, 0), BAD);
        CHECK.due("no class is there", x.size(0), REFUSED);
        CHECK.due("a name of one sign", Check.define(x, 0, "!", 0), DONE);
        CHECK.due("its bytes", Check.readable(Check.bytes(x, 0)), "{00}{01}!{00}{00}{00}{00}");
        CHECK.due("the longest name", Check.define(x, 0, LONGEST, 0), DONE);
        CHECK.due("its size", x.size(0), 30);
        CHECK.due("a name that another has", x.define(1, 0), DONE);
        CHECK.due("the NAME is as it was", x.clear(0), 24);
        CHECK.due("define without a name again", x.define(0, 1), BAD);
        CHECK.due("the class is as it was", x.size(0), 30);
    }

    private static void emptyFaces() {
        CHECK.sentence("Promise 5: Empty: BAD.");
        StreamIds x = withClass();
        CHECK.due("none yet", Check.face(x, 0, ""), BAD);
        Check.put(x, 1, "I");
        CHECK.due("with a SHAPE", x.face(0), BAD);
        CHECK.due("how many", x.count(0, 0), 0);
        CHECK.due("the shortest", Check.face(x, 0, "!"), 1);
        CHECK.due("the longest", Check.face(x, 0, LONGEST), 2);
        CHECK.due("empty again", Check.face(x, 0, ""), BAD);
    }

    private static void facesTwice() {
        CHECK.sentence("It has that name: TWICE.");
        StreamIds x = withClass();
        for (String name : new String[] {"b", "a", "c"}) {
            Check.face(x, 0, name);
        }
        for (String name : new String[] {"a", "b", "c"}) {
            CHECK.due(name + " again", Check.face(x, 0, name), TWICE);
        }
        Check.put(x, 1, "I");
        CHECK.due("with another SHAPE", x.face(0), TWICE);
        CHECK.due("a name that begins with it", Check.face(x, 0, "cc"), 4);
        Check.define(x, 1, "D", 0);
        CHECK.due("another class has its own", Check.face(x, 1, "a"), 1);
    }

    private static void fourFaces() {
        CHECK.sentence("up to 4 interface names; It has four: FULL.");
        for (String fifth : new String[] {"A", "bb", "z"}) {
            StreamIds x = withClass();
            for (int i = 1; i <= 4; i++) {
                CHECK.due("name " + i, Check.face(x, 0, "" + (char) ('a' + i)), i);
            }
            CHECK.due("a fifth name", Check.face(x, 0, fifth), FULL);
            CHECK.due("how many", x.count(0, 0), 4);
            CHECK.due("members have their own room", Check.start(x, 0), 1);
        }
    }

    private static void howManyFaces() {
        CHECK.sentence("Promise 5: Answers how many it has.");
        StreamIds x = withTen();
        CHECK.due("the first, with ten members", Check.face(x, 0, "F"), 1);
        CHECK.due("the class's own name", Check.face(x, 0, "C"), 2);
        Check.define(x, 3, "D", 0);
        CHECK.due("the first of class 3", Check.face(x, 3, "F"), 1);
        CHECK.due("the third", Check.face(x, 0, "f0"), 3);
    }

    private static void whichKinds() {
        CHECK.sentence("kind 0 FIELD, 1 CONSTRUCTOR, 2 METHOD, 3 START");
        for (int kind = 0; kind < 4; kind++) {
            StreamIds x = withClass();
            CHECK.due("kind " + kind, member(x, kind, "n", kind == 0 ? "I" : "()V"), 1);
            for (int what = 2; what < 6; what++) {
                CHECK.due("count(0, " + what + ")", x.count(0, what), what == kind + 2 ? 1 : 0);
            }
        }
        for (int kind : new int[] {-1, 4, 5, Integer.MIN_VALUE, Integer.MAX_VALUE}) {
            CHECK.due("kind " + kind, member(withClass(), kind, "n", "I"), REFUSED);
            CHECK.due("remove of kind " + kind, withTen().remove(0, kind), REFUSED);
        }
    }

    private static void emptyNames() {
        CHECK.sentence("NAME (looked at for 0 and 2) is empty .. : BAD");
        StreamIds x = withClass();
        CHECK.due("a field", member(x, 0, "", "I"), BAD);
        CHECK.due("a method", member(x, 2, "", "()V"), BAD);
        CHECK.due("no members", x.count(0, 1), 0);
        CHECK.due("the shortest name of a field", member(x, 0, "~", "I"), 1);
        CHECK.due("the shortest name of a method", member(x, 2, "~", "()V"), 2);
        CHECK.due("the longest name of a field", member(x, 0, LONGEST, "I"), 3);
        CHECK.due("the longest name of a method", member(x, 2, LONGEST, "()V"), 4);
        CHECK.due("size", x.size(0), 7 + 10 + 33 + 12 + 35);
    }

    private static void namesNotLookedAt() {
        CHECK.sentence("NAME (looked at for 0 and 2 alone)");
        StreamIds x = withClass();
        CHECK.due("a constructor without one", member(x, 1, "", "()V"), 1);
        CHECK.due("the start without one", member(x, 3, "", "()V"), 2);
        StreamIds y = withClass();
        CHECK.due("a constructor with one", member(y, 1, LONGEST, "()V"), 1);
        CHECK.due("the start with one", member(y, 3, LONGEST, "()V"), 2);
        CHECK.due("the bytes", Check.hex(Check.bytes(y, 0)), Check.hex(Check.bytes(x, 0)));
    }

    private static void shapesNotLookedAt() {
        CHECK.sentence("SHAPE (not for 3) is none for its kind: BAD");
        for (String shape : new String[] {"", "I", "()V", "()I", "[[[[", "?", LONGEST}) {
            StreamIds x = withClass();
            CHECK.due("the start with " + shape, member(x, 3, "n", shape), 1);
            CHECK.due("its size", x.size(0), 7 + 10 + 4 + 5);
        }
        for (int kind = 0; kind < 3; kind++) {
            CHECK.due("kind " + kind + " without one", member(withClass(), kind, "n", ""), BAD);
            CHECK.due("kind " + kind + " with none", member(withClass(), kind, "n", "[[[["), BAD);
        }
    }

    private static void tenMembers() {
        CHECK.sentence("up to 10 MEMBERS; Ten: FULL. Answers how many it has.");
        StreamIds x = withClass();
        CHECK.due("1", member(x, 2, "m", "()V"), 1);
        CHECK.due("2", member(x, 3, "", ""), 2);
        CHECK.due("3", member(x, 1, "", "()V"), 3);
        CHECK.due("4", member(x, 1, "", "(I)V"), 4);
        CHECK.due("5", member(x, 0, "f", "I"), 5);
        CHECK.due("6", member(x, 0, "e", "I"), 6);
        CHECK.due("7", member(x, 2, "l", "()V"), 7);
        CHECK.due("8", member(x, 2, "m", "()I"), 8);
        CHECK.due("9", member(x, 1, "", "(J)V"), 9);
        CHECK.due("10", member(x, 0, "g", "I"), 10);
        CHECK.due("11", member(x, 0, "h", "I"), FULL);
        CHECK.due("how many", x.count(0, 1), 10);
        Check.define(x, 1, "D", 0);
        CHECK.due("another class has its own room", Check.field(x, 1, "h", "I", 0), 1);
    }

    private static void everyKindAsEleventh() {
        CHECK.sentence("Ten: FULL. (of each kind)");
        StreamIds x = withTen();
        CHECK.due("a field", member(x, 0, "g", "I"), FULL);
        CHECK.due("a constructor", member(x, 1, "", "()V"), FULL);
        CHECK.due("a method", member(x, 2, "m", "()V"), FULL);
        CHECK.due("the start", member(x, 3, "", ""), FULL);
        CHECK.due("how many", x.count(0, 1), 10);
        CHECK.due("interfaces have their own room", Check.face(x, 0, "F"), 1);
    }

    private static void removedAsFarAsTheyCount() {
        CHECK.sentence("with the NAME and SHAPE (as far as they count for TWICE)");
        for (String shape : new String[] {"", "I", "J", "()V", "[[[["}) {
            StreamIds x = withClass();
            member(x, 0, "a", "I");
            CHECK.due("a field, SHAPE " + shape, Check.remove(x, 0, 0, "a", shape), 0);
        }
        for (String name : new String[] {"", "a", LONGEST}) {
            StreamIds x = withClass();
            member(x, 1, "n", "(I)V");
            CHECK.due("a constructor, another SHAPE", Check.remove(x, 0, 1, name, "()V"), BAD);
            CHECK.due("a constructor, NAME " + name, Check.remove(x, 0, 1, name, "(I)V"), 0);
            member(x, 3, "n", "(I)V");
            CHECK.due("the start, NAME " + name, Check.remove(x, 0, 3, name, ""), 0);
        }
        StreamIds x = withClass();
        member(x, 2, "a", "()V");
        CHECK.due("a method, no NAME", Check.remove(x, 0, 2, "", "()V"), BAD);
        CHECK.due("a method, no SHAPE", Check.remove(x, 0, 2, "a", ""), BAD);
        CHECK.due("a method, another NAME", Check.remove(x, 0, 2, "b", "()V"), BAD);
        CHECK.due("a method, another SHAPE", Check.remove(x, 0, 2, "a", "()I"), BAD);
        CHECK.due("a method", Check.remove(x, 0, 2, "a", "()V"), 0);
    }

    private static void noneToRemove() {
        CHECK.sentence("there is none: BAD.");
        for (int kind = 0; kind < 4; kind++) {
            String shape = kind == 0 ? "I" : "()V";
            StreamIds x = withClass();
            CHECK.due("no members, kind " + kind, Check.remove(x, 0, kind, "n", shape), BAD);
            member(x, kind, "n", shape);
            for (int other = 0; other < 4; other++) {
                if (other != kind) {
                    CHECK.due(other + " for " + kind, Check.remove(x, 0, other, "n", shape), BAD);
                }
            }
            CHECK.due("kind " + kind, Check.remove(x, 0, kind, "n", shape), 0);
            CHECK.due("kind " + kind + " again", Check.remove(x, 0, kind, "n", shape), BAD);
            CHECK.due("how many", x.count(0, 1), 0);
        }
        StreamIds x = withClass();
        Check.face(x, 0, "F");
        CHECK.due("an interface is no member", Check.remove(x, 0, 0, "F", "I"), BAD);
        Check.define(x, 1, "D", 0);
        Check.field(x, 1, "f", "I", 0);
        CHECK.due("another class's is not its own", Check.remove(x, 0, 0, "f", "I"), BAD);
    }

    private static void howManyAreLeft() {
        CHECK.sentence("Answers how many are left.");
        StreamIds x = withTen();
        for (int i = 0; i < 10; i++) {
            CHECK.due("remove of f" + i, Check.remove(x, 0, 0, "f" + i, "I"), 9 - i);
        }
        CHECK.due("remove of one more", Check.remove(x, 0, 0, "f0", "I"), BAD);
        CHECK.due("size", x.size(0), 7);
    }

    private static void removedFromTen() {
        CHECK.sentence("The MEMBER .. is there no more");
        for (int gone : new int[] {0, 5, 9}) {
            StreamIds x = withTen();
            CHECK.due("remove of f" + gone, Check.remove(x, 0, 0, "f" + gone, "I"), 9);
            CHECK.due("a new one", member(x, 3, "", ""), 10);
            CHECK.due("it has no room", member(x, 0, "f" + gone, "I"), FULL);
            for (int i = 0; i < 10; i++) {
                int left = i < gone ? 9 - i : 10 - i;
                int due = i == gone ? BAD : left;
                CHECK.due("remove of f" + i, Check.remove(x, 0, 0, "f" + i, "I"), due);
            }
            CHECK.due("remove of the new one", Check.remove(x, 0, 3, "", ""), 0);
        }
    }

    private static void declared() {
        CHECK.sentence("The class has the DECLARED identifier");
        long[] all = {0, 1, -1, Long.MIN_VALUE, Long.MAX_VALUE, StreamIds.NONE, 1L << 32, 1L << 31};
        StreamIds x = withClass();
        CHECK.due("none at first", x.count(0, 7), 0);
        for (long id : all) {
            CHECK.due("declare " + id, x.declare(0, true, id), DONE);
            CHECK.due("id", x.id(0), id);
            CHECK.due("one is declared", x.count(0, 7), 1);
        }
        for (int number : new int[] {-1, 1, 3, 4, Integer.MIN_VALUE, Integer.MAX_VALUE}) {
            CHECK.due("declare of class " + number, x.declare(number, true, 5), REFUSED);
        }
        CHECK.due("the last one stays", x.id(0), 1L << 31);
    }

    private static void notOn() {
        CHECK.sentence("or (not on) none");
        StreamIds x = withClass();
        long computed = x.id(0);
        CHECK.due("not on, there is none", x.declare(0, false, 5), DONE);
        CHECK.due("none", x.count(0, 7), 0);
        CHECK.due("id", x.id(0), computed);
        x.declare(0, true, 5);
        CHECK.due("not on, there is one", x.declare(0, false, 5), DONE);
        CHECK.due("none any more", x.count(0, 7), 0);
        CHECK.due("id", x.id(0), computed);
        CHECK.due("not on again", x.declare(0, false, 0), DONE);
        CHECK.due("on again", x.declare(0, true, 6), DONE);
        CHECK.due("id", x.id(0), 6);
    }
}
