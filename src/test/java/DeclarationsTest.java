/** Promises 4 to 8 and 14: define, face, member, remove, declare, and count. */
public final class DeclarationsTest {
    private static final Check CHECK = new Check();
    private static final int[] NO_CLASSES = {-1, 1, 4, Integer.MIN_VALUE, Integer.MAX_VALUE};

    public static void main(String[] args) {
        defining();
        definingAnew();
        faces();
        members();
        twice();
        fullMembers();
        removing();
        removingThenAdding();
        removingByWhatCounts();
        declaring();
        counting();
        refusals();
        CHECK.end();
    }

    private static StreamIds withClass() {
        StreamIds x = new StreamIds();
        Check.define(x, 0, "C", 0);
        return x;
    }

    private static void counts(StreamIds x, int number, int... due) {
        for (int what = 0; what < due.length; what++) {
            CHECK.due("count(" + number + ", " + what + ")", x.count(number, what), due[what]);
        }
    }

    private static void defining() {
        StreamIds x = new StreamIds();
        CHECK.due("define without a name", x.define(0, 1), StreamIds.BAD);
        CHECK.due("define of class -1 without a name", x.define(-1, 1), StreamIds.REFUSED);
        CHECK.due("it made no class", x.size(0), StreamIds.REFUSED);
        x.type(0, 'C');
        for (int number : new int[] {-1, 4, Integer.MIN_VALUE, Integer.MAX_VALUE}) {
            CHECK.due("define(" + number + ")", x.define(number, 0), StreamIds.REFUSED);
        }
        for (int number = 0; number < 4; number++) {
            CHECK.due("define(" + number + ")", x.define(number, number), StreamIds.DONE);
            counts(x, number, 0, 0, 0, 0, 0, 0, number, 0);
        }
        CHECK.due("define with all bits", x.define(3, -1), StreamIds.DONE);
        CHECK.due("bits kept", x.count(3, 6), 65535);
        CHECK.due("define with bit 16", x.define(3, 65536 | 1), StreamIds.DONE);
        CHECK.due("bits kept", x.count(3, 6), 1);
    }

    private static void definingAnew() {
        StreamIds x = withClass();
        Check.define(x, 1, "D", 0);
        Check.face(x, 0, "F");
        Check.field(x, 0, "f", "I", 0);
        Check.start(x, 0);
        x.declare(0, true, 5);
        x.clear(0);
        CHECK.due("define anew without a name", x.define(0, 16), StreamIds.BAD);
        counts(x, 0, 1, 2, 1, 0, 0, 1, 0, 1);
        CHECK.due("define anew", Check.define(x, 0, "E", 16), StreamIds.DONE);
        counts(x, 0, 0, 0, 0, 0, 0, 0, 16, 0);
        CHECK.due("the new name", x.byteAt(0, 2), 'E');
        CHECK.due("the other class's name", x.byteAt(1, 2), 'D');
        CHECK.due("the old member is no twice", Check.field(x, 0, "f", "I", 0), 1);
    }

    private static void faces() {
        StreamIds x = withClass();
        CHECK.due("an empty name", Check.face(x, 0, ""), StreamIds.BAD);
        CHECK.due("the class's own name", Check.face(x, 0, "C"), 1);
        CHECK.due("it again", Check.face(x, 0, "C"), StreamIds.TWICE);
        CHECK.due("a longer name", Check.face(x, 0, "CC"), 2);
        CHECK.due("an earlier name", Check.face(x, 0, "A"), 3);
        CHECK.due("a name of 24 signs", Check.face(x, 0, "abcdefghijklmnopqrstuvwx"), 4);
        CHECK.due("a fifth", Check.face(x, 0, "B"), StreamIds.FULL);
        CHECK.due("a fifth that it has", Check.face(x, 0, "A"), StreamIds.TWICE);
        CHECK.due("a fifth that is empty", Check.face(x, 0, ""), StreamIds.BAD);
        CHECK.due("how many", x.count(0, 0), 4);
        CHECK.due("no members", x.count(0, 1), 0);
    }

    private static void members() {
        StreamIds x = withClass();
        CHECK.due("a field without a name", Check.field(x, 0, "", "I", 0), StreamIds.BAD);
        CHECK.due("a method without a name", Check.method(x, 0, "", "()V", 0), StreamIds.BAD);
        CHECK.due("a field without a shape", Check.field(x, 0, "a", "", 0), StreamIds.BAD);
        CHECK.due("a field with a method's shape", Check.field(x, 0, "a", "()V", 0), StreamIds.BAD);
        CHECK.due("a method with a field's shape", Check.method(x, 0, "a", "I", 0), StreamIds.BAD);
        CHECK.due("a constructor that answers", Check.constructor(x, 0, "()I", 0), StreamIds.BAD);
        CHECK.due("no members yet", x.count(0, 1), 0);
        CHECK.due("a field", Check.field(x, 0, "a", "I", 0), 1);
        CHECK.due("a constructor without a name", Check.constructor(x, 0, "()V", 0), 2);
        CHECK.due("a method with the field's name", Check.method(x, 0, "a", "()V", 0), 3);
        CHECK.due("the start, whatever the buffers hold", startWith(x, "", "?"), 4);
        counts(x, 0, 0, 4, 1, 1, 1, 1);
    }

    private static int startWith(StreamIds x, String name, String shape) {
        Check.put(x, 0, name);
        Check.put(x, 1, shape);
        return x.member(0, 3, 0);
    }

    private static void twice() {
        StreamIds x = withClass();
        Check.field(x, 0, "a", "I", 0);
        CHECK.due("a field's name again", Check.field(x, 0, "a", "J", 1), StreamIds.TWICE);
        CHECK.due("a field's name with no shape", Check.field(x, 0, "a", "V", 1), StreamIds.BAD);
        CHECK.due("a field's name and more", Check.field(x, 0, "aa", "I", 0), 2);
        Check.method(x, 0, "a", "()V", 0);
        CHECK.due("a method again", Check.method(x, 0, "a", "()V", 2), StreamIds.TWICE);
        CHECK.due("its name with another shape", Check.method(x, 0, "a", "()I", 0), 4);
        CHECK.due("its shape with another name", Check.method(x, 0, "b", "()V", 0), 5);
        Check.constructor(x, 0, "()V", 0);
        Check.put(x, 0, "named");
        CHECK.due("a constructor again, with a name", x.member(0, 1, 2), StreamIds.TWICE);
        CHECK.due("another constructor", Check.constructor(x, 0, "(I)V", 0), 7);
        CHECK.due("the start", Check.start(x, 0), 8);
        CHECK.due("the start again", startWith(x, "other", "()I"), StreamIds.TWICE);
        Check.define(x, 1, "D", 0);
        CHECK.due("a class that has it is not another", Check.field(x, 1, "a", "I", 0), 1);
    }

    private static void fullMembers() {
        StreamIds x = withClass();
        for (int i = 0; i < 10; i++) {
            CHECK.due("member " + i, Check.field(x, 0, "f" + (char) ('z' - i), "I", 0), i + 1);
        }
        CHECK.due("an eleventh field", Check.field(x, 0, "f", "I", 0), StreamIds.FULL);
        CHECK.due("an eleventh, a start", Check.start(x, 0), StreamIds.FULL);
        CHECK.due("an eleventh that it has", Check.field(x, 0, "fz", "I", 0), StreamIds.TWICE);
        CHECK.due("an eleventh with no shape", Check.field(x, 0, "f", "", 0), StreamIds.BAD);
        CHECK.due("interfaces have their own room", Check.face(x, 0, "I"), 1);
        CHECK.due("one is removed", Check.remove(x, 0, 0, "fz", ""), 9);
        CHECK.due("there is room for one", Check.start(x, 0), 10);
        CHECK.due("and for no more", Check.field(x, 0, "fz", "I", 0), StreamIds.FULL);
    }

    private static void removing() {
        StreamIds x = withClass();
        CHECK.due("nothing is there", Check.remove(x, 0, 3, "", ""), StreamIds.BAD);
        Check.face(x, 0, "a");
        Check.field(x, 0, "a", "I", 0);
        Check.field(x, 0, "b", "I", 0);
        Check.field(x, 0, "c", "I", 0);
        Check.start(x, 0);
        CHECK.due("no such name", Check.remove(x, 0, 0, "d", "I"), StreamIds.BAD);
        CHECK.due("an empty name", Check.remove(x, 0, 0, "", "I"), StreamIds.BAD);
        CHECK.due("a method, not the field", Check.remove(x, 0, 2, "a", "I"), StreamIds.BAD);
        CHECK.due("how many", x.count(0, 1), 4);
        CHECK.due("the field between", Check.remove(x, 0, 0, "b", "I"), 3);
        CHECK.due("it again", Check.remove(x, 0, 0, "b", "I"), StreamIds.BAD);
        CHECK.due("the start", Check.remove(x, 0, 3, "", ""), 2);
        CHECK.due("the start again", Check.remove(x, 0, 3, "", ""), StreamIds.BAD);
        CHECK.due("the others are left", Check.readable(Check.bytes(x, 0)),
                "{00}{01}C{00}{00}{00}{00}{00}{01}a{00}{01}a{00}{00}{00}{00}{00}{01}I"
                + "{00}{01}c{00}{00}{00}{00}{00}{01}I");
        CHECK.due("no interface is removed", x.count(0, 0), 1);
        CHECK.due("it comes back", Check.field(x, 0, "b", "J", 0), 3);
        CHECK.due("with the new shape", x.byteAt(0, x.part(0, 2) + 19), 'J');
    }

    private static void removingThenAdding() {
        String[] names = {"a", "b", "c"};
        for (String gone : names) {
            StreamIds x = withClass();
            StringBuilder due = new StringBuilder("{00}{01}C{00}{00}{00}{00}");
            for (String name : names) {
                Check.field(x, 0, name, "I", 0);
                due.append(name.equals(gone) ? "" : "{00}{01}" + name + "{00}{00}{00}{00}{00}{01}I");
            }
            Check.remove(x, 0, 0, gone, "");
            Check.field(x, 0, "d", "J", 1);
            due.append("{00}{01}d{00}{00}{00}{01}{00}{01}J");
            CHECK.due("d for " + gone, Check.readable(Check.bytes(x, 0)), due.toString());
        }
    }

    private static void removingByWhatCounts() {
        StreamIds x = withClass();
        Check.field(x, 0, "a", "I", 0);
        Check.constructor(x, 0, "()V", 0);
        Check.method(x, 0, "a", "()V", 0);
        Check.start(x, 0);
        CHECK.due("a method's name, other shape", Check.remove(x, 0, 2, "a", "()I"), StreamIds.BAD);
        CHECK.due("a method's shape, other name", Check.remove(x, 0, 2, "b", "()V"), StreamIds.BAD);
        CHECK.due("a constructor's other shape", Check.remove(x, 0, 1, "", "(I)V"), StreamIds.BAD);
        CHECK.due("a field, its shape does not count", Check.remove(x, 0, 0, "a", "?"), 3);
        CHECK.due("a constructor, no name counts", Check.remove(x, 0, 1, "a", "()V"), 2);
        CHECK.due("a method", Check.remove(x, 0, 2, "a", "()V"), 1);
        CHECK.due("the start, nothing counts", Check.remove(x, 0, 3, "z", "z"), 0);
    }

    private static void declaring() {
        StreamIds x = withClass();
        long computed = x.id(0);
        CHECK.due("declare not on, without one", x.declare(0, false, 9), StreamIds.DONE);
        CHECK.due("none is declared", x.count(0, 7), 0);
        for (long id : new long[] {0, -5, Long.MIN_VALUE, Long.MAX_VALUE, StreamIds.NONE}) {
            CHECK.due("declare " + id, x.declare(0, true, id), StreamIds.DONE);
            CHECK.due("its id", x.id(0), id);
            CHECK.due("one is declared", x.count(0, 7), 1);
        }
        CHECK.due("declare not on", x.declare(0, false, 7), StreamIds.DONE);
        CHECK.due("none is declared any more", x.count(0, 7), 0);
        CHECK.due("the id is as it was", x.id(0), computed);
    }

    private static void counting() {
        StreamIds x = new StreamIds();
        Check.define(x, 2, "C", 4096 | 2);
        Check.face(x, 2, "F");
        Check.face(x, 2, "G");
        Check.field(x, 2, "a", "I", 2 | 8);
        Check.method(x, 2, "a", "()V", 2);
        Check.method(x, 2, "b", "()V", 0);
        Check.method(x, 2, "c", "()V", 0);
        Check.constructor(x, 2, "()V", 2);
        Check.constructor(x, 2, "(I)V", 0);
        counts(x, 2, 2, 6, 1, 2, 3, 0, 4098, 0);
        Check.start(x, 2);
        x.declare(2, true, 0);
        counts(x, 2, 2, 7, 1, 2, 3, 1, 4098, 1);
        for (int what : new int[] {-1, 8, Integer.MIN_VALUE, Integer.MAX_VALUE}) {
            CHECK.due("count(2, " + what + ")", x.count(2, what), StreamIds.REFUSED);
        }
    }

    /** What is out of range is tested before everything else, even before an empty name. */
    private static void refusals() {
        StreamIds x = withClass();
        x.clear(0);
        for (int number : NO_CLASSES) {
            CHECK.due("face(" + number + ")", x.face(number), StreamIds.REFUSED);
            CHECK.due("member(" + number + ")", x.member(number, 0, 0), StreamIds.REFUSED);
            CHECK.due("remove(" + number + ")", x.remove(number, 0), StreamIds.REFUSED);
            CHECK.due("declare(" + number + ")", x.declare(number, true, 1), StreamIds.REFUSED);
            CHECK.due("count(" + number + ")", x.count(number, 0), StreamIds.REFUSED);
        }
        for (int kind : new int[] {-1, 4, 5, Integer.MIN_VALUE, Integer.MAX_VALUE}) {
            CHECK.due("member of kind " + kind, x.member(0, kind, 0), StreamIds.REFUSED);
            CHECK.due("remove of kind " + kind, x.remove(0, kind), StreamIds.REFUSED);
        }
        counts(x, 0, 0, 0, 0, 0, 0, 0, 0, 0);
    }
}
