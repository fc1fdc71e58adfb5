/** The Terms, sentence by sentence: the edges of TYPE SHAPES and METHOD SHAPES. */
public final class ShapeEdgesTest {
    private static final Check CHECK = new Check();

    public static void main(String[] args) {
        singleSigns();
        namesTooShort();
        namesTooLong();
        namesWithoutEnd();
        signsThatNoNameHas();
        rowsOfNothing();
        tooManyBrackets();
        nothingAround();
        noTypes();
        asManyTypesAsFit();
        answersOfMethods();
        methodsThatLackAPart();
        bracketsOfEachType();
        constructors();
        CHECK.end();
    }

    private static boolean isTaken(int kind, String shape) {
        StreamIds x = new StreamIds();
        Check.define(x, 0, "C", 0);
        Check.put(x, 1, shape);
        int answer = x.member(0, kind, 0);
        CHECK.due("count after kind " + kind + " " + shape, x.count(0, 1), answer == 1 ? 1 : 0);
        if (answer != 1) {
            CHECK.due("kind " + kind + " " + shape, answer, StreamIds.BAD);
        }
        return answer == 1;
    }

    private static void types(boolean due, String... shapes) {
        for (String shape : shapes) {
            CHECK.due(shape + " is a type", "" + isTaken(0, shape), "" + due);
        }
    }

    private static void methods(boolean due, String... shapes) {
        for (String shape : shapes) {
            CHECK.due(shape + " is a method", "" + isTaken(2, shape), "" + due);
        }
    }

    private static void singleSigns() {
        CHECK.sentence("TYPE SHAPES: B C D F I J S Z");
        for (char sign = 33; sign <= 126; sign++) {
            types("BCDFIJSZ".indexOf(sign) >= 0, "" + sign);
        }
        types(false, "", "BB", "IJ");
    }

    private static void namesTooShort() {
        CHECK.sentence("or L, one or more signs ..");
        types(true, "La;", "LL;", "L/;");
        types(false, "L;", "L", "l;", "la;", "[L;");
    }

    private static void namesTooLong() {
        CHECK.sentence("at most 24 signs each (an L shape of all of them)");
        types(true, "Labcdefghijklmnopqrstuv;", "[Labcdefghijklmnopqrstu;", "[[[Labcdefghijklmnopqrs;");
        types(false, "Labcdefghijklmnopqrstuvw", "[[[Labcdefghijklmnopqrst");
    }

    private static void namesWithoutEnd() {
        CHECK.sentence(".. and ;");
        types(false, "La", "Lab", "LI", "[La", "La:", "La[", "La(", "La)", "La.");
        methods(false, "(La)V", "(La.)V", "(La[)V", "(La()V", "(La))V", "()La", "()La.", "()La)");
    }

    private static void signsThatNoNameHas() {
        CHECK.sentence("none of which is one of ; [ ( ) .");
        for (char sign = 33; sign <= 126; sign++) {
            boolean fits = ";[().".indexOf(sign) < 0;
            types(fits, "L" + sign + ";", "L" + sign + "b;", "La" + sign + ";", "La" + sign + "b;");
        }
    }

    private static void rowsOfNothing() {
        CHECK.sentence("or [ and a TYPE SHAPE");
        types(true, "[I", "[La;", "[[Z");
        types(false, "[", "[[", "[[[", "[V", "[]", "I[", "[I[", "La;[", "[()V", "[ILa;");
    }

    private static void tooManyBrackets() {
        CHECK.sentence("with at most three [ in all before the rest");
        types(true, "I", "[I", "[[I", "[[[I", "[[[La;");
        types(false, "[[[[I", "[[[[La;", "[[[[[I", "[[[[[[[[[[[[[[[[[[[[[[[I", "[[[[[[[[[[[[[[[[[[[[[[[[");
    }

    private static void nothingAround() {
        CHECK.sentence("SHAPE .. is none for its kind: BAD (a shape and more)");
        types(false, "I;", "II", "VI", "La;I", "ILa;", "La;;", "La;La;", ")I", "(I");
        methods(false, "()VV", "()II", "()V;", "I()V", "()()V", "()V()V", "((I)V", "(I))V");
    }

    private static void noTypes() {
        CHECK.sentence("A METHOD SHAPE: (, any number of TYPE SHAPES (none), )");
        methods(true, "()V", "()I");
        methods(false, "(V)V", "([)V", "([V)V", "(;)V", "(L;)V", "(La)V", "(I,J)V", "(La.b;)V");
    }

    private static void asManyTypesAsFit() {
        CHECK.sentence("any number of TYPE SHAPES (as many as the buffer has room for)");
        methods(true, "(I)V", "(IJ)V", "(IIIIIIIIIIIIIIIIIIIII)V", "(La;La;La;La;La;La;La;)V",
                "([[[I[[[J[[[Z[[[S[[[B)V");
        methods(false, "(IIIIIIIIIIIIIIIIIIIIII)", "(IIIIIIIIIIIIIIIIIIIIIII");
    }

    private static void answersOfMethods() {
        CHECK.sentence("), and V or a TYPE SHAPE");
        methods(true, "()V", "()B", "()Z", "()La;", "()[[[I", "()Labcdefghijklmnopqrst;");
        methods(false, "()", "(I)", "()[", "()[V", "()L;", "()La", "()La.b;", "()W", "()v", "())", "()(");
    }

    private static void methodsThatLackAPart() {
        CHECK.sentence("A METHOD SHAPE: (, .. ), and .. (one of them lacks)");
        methods(false, "", "(", ")", "V", "I", "(V", ")V", "I)V", "(I", "(IV", "((V", "[()V");
    }

    private static void bracketsOfEachType() {
        CHECK.sentence("at most three [ in all before the rest (of each type of a METHOD SHAPE)");
        methods(true, "([[[I)V", "([[[I[[[J)[[[Z", "([[[La;)V");
        methods(false, "([[[[I)V", "(I[[[[J)V", "()[[[[I", "([[[[La;)V");
    }

    private static void constructors() {
        CHECK.sentence("a CONSTRUCTOR (METHOD SHAPE that ends in V)");
        for (String shape : new String[] {"()V", "(I)V", "(LV;)V", "(IIIIIIIIIIIIIIIIIIIII)V"}) {
            CHECK.due(shape + " is a constructor", "" + isTaken(1, shape), "true");
        }
        for (String shape : new String[] {"", "V", "()", "()I", "()LV;", "(V", "(V)V", "()[V", "()VV", "I"}) {
            CHECK.due(shape + " is a constructor", "" + isTaken(1, shape), "false");
        }
    }
}
