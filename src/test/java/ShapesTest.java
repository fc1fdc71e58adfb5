/** Promises 6 and 15: which texts are TYPE SHAPES and METHOD SHAPES. */
public final class ShapesTest {
    private static final Check CHECK = new Check();
    private static final String[] TYPES = {
        "B", "C", "D", "F", "I", "J", "S", "Z", "[B", "[[C", "[[[D", "La;", "LL;", "L/;", "L,;",
        "La/b;", "[La;", "[[[La/b/c;", "L<$>!~;", "L]{}:;", "Labcdefghijklmnopqrstuv;"};
    private static final String[] NO_TYPES = {
        "", "V", "L", "L;", "La", "La;;", "LLa;;", "A", "E", "b", "i", "[", "[[[", "[V", "[[[[I",
        "[[[[La;", "II", "IV", "I;", "I[", "La.b;", "L[a;", "L(a;", "L)a;", "La;I", ";", "(", "()",
        ".", "[L;", "[La", "La[;", "Labcdefghijklmnopqrstuvw"};
    private static final String[] CONSTRUCTORS = {
        "()V", "(I)V", "(IJ)V", "(La;)V", "([[[I[[[J)V", "(La;[La/b;Z)V", "(LV;)V", "(L,;)V",
        "(IIIIIIIIIIIIIIIIIIIII)V", "(La;La;La;La;La;La;La;)V"};
    private static final String[] OTHER_METHODS = {
        "()I", "()[[[I", "()La;", "(I)[La;", "()LV;", "(I)Labcdefghijklmnopqrs;"};
    private static final String[] NO_METHODS = {
        "(", ")", "()", "(I)", "(I", "()VV", "()[V", "(V)V", "([V)V", "([)V", "([[[[I)V",
        "()[[[[I", "(L;)V", "(La)V", "(La.b;)V", "(()V)V", "()V()V", "I()V", ")V", "(I)V)", "V()",
        "(I)II", "())V", "((V", "(I,J)V", "(La;;)V", "()L;", "()La", "()W", "(IIIIIIIIIIIIIIIIIIIIIII",
        "(IIIIIIIIIIIIIIIIIIIIII)"};

    public static void main(String[] args) {
        for (String shape : TYPES) {
            expect(shape, true, false, false);
        }
        for (String shape : NO_TYPES) {
            expect(shape, false, false, false);
        }
        for (String shape : CONSTRUCTORS) {
            expect(shape, false, true, true);
        }
        for (String shape : OTHER_METHODS) {
            expect(shape, false, false, true);
        }
        for (String shape : NO_METHODS) {
            expect(shape, false, false, false);
        }
        signsOfNames();
        CHECK.end();
    }

    /** Each sign in an L shape's name, and alone as a type. */
    private static void signsOfNames() {
        for (char sign = 33; sign <= 126; sign++) {
            boolean fits = ";[().".indexOf(sign) < 0;
            expect("L" + sign + ";", fits, false, false);
            expect("La" + sign + "b;", fits, false, false);
            expect("(L" + sign + ";)V", false, fits, fits);
            expect("" + sign, "BCDFIJSZ".indexOf(sign) >= 0, false, false);
        }
    }

    private static void expect(String shape, boolean field, boolean constructor, boolean method) {
        StreamIds x = new StreamIds();
        Check.define(x, 0, "C", 0);
        int room = 0;
        room += one(x, 0, shape, field, room);
        room += one(x, 1, shape, constructor, room);
        room += one(x, 2, shape, method, room);
        CHECK.due("members with the shape " + shape, x.count(0, 1), room);
    }

    private static int one(StreamIds x, int kind, String shape, boolean fits, int before) {
        Check.put(x, 0, "n");
        Check.put(x, 1, shape);
        int due = fits ? before + 1 : StreamIds.BAD;
        CHECK.due("kind " + kind + " with the shape " + shape, x.member(0, kind, 0), due);
        return fits ? 1 : 0;
    }
}
