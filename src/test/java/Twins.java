/** Two objects with one past, of which only one has a call that must change nothing. */
final class Twins {
    /** A call, or a few, on an object. */
    interface Step {
        long on(StreamIds x);
    }

    private static final String[][] SOME_MEMBERS = {
        {"0", "x", "I", "1"}, {"0", "hidden", "J", "10"}, {"1", "", "(I)V", "4"},
        {"2", "go", "(La/b;)V", "1"}, {"2", "own", "()I", "2"}, {"3", "", "", "0"}};
    private static final String[] TEN_FIELDS = {"a", "b", "c", "d", "e", "f", "g", "h"};
    private static final String[] CALLS_OF_TEN = {"1", "2"};

    private final Check check;

    Twins(Check check) {
        this.check = check;
    }

    /**
     * Class 0 has two interfaces, members of each kind and no DECLARED; class 1 has four, ten
     * (but no START) and a DECLARED; class 2 has nothing; class 3 is not there.
     */
    static StreamIds withPast() {
        StreamIds x = new StreamIds();
        Check.define(x, 0, "Point", 1 | 16);
        Check.face(x, 0, "F");
        Check.face(x, 0, "G");
        for (String[] each : SOME_MEMBERS) {
            putTexts(x, each[1], each[2]);
            x.member(0, Integer.parseInt(each[0]), Integer.parseInt(each[3]));
        }
        Check.define(x, 1, "Full", 512);
        for (String each : new String[] {"F", "G", "H", "I"}) {
            Check.face(x, 1, each);
        }
        for (String each : TEN_FIELDS) {
            Check.field(x, 1, each, "I", 0);
        }
        for (String kind : CALLS_OF_TEN) {
            putTexts(x, "m", "()V");
            x.member(1, Integer.parseInt(kind), 1);
        }
        x.declare(1, true, 77);
        Check.define(x, 2, "Bare", 0);
        putTexts(x, "", "");
        return x;
    }

    static void putTexts(StreamIds x, String name, String shape) {
        Check.put(x, 0, name);
        Check.put(x, 1, shape);
    }

    /** The call answers what is due, and both objects tell the same of everything afterwards. */
    void unchangedBy(String what, String name, String shape, Step call, long due) {
        StreamIds touched = withPast();
        StreamIds untouched = withPast();
        putTexts(touched, name, shape);
        putTexts(untouched, name, shape);
        check.due(what, call.on(touched), due);
        check.due("all that is told after " + what, told(touched), told(untouched));
        check.due("the buffers after " + what, buffersOf(touched), buffersOf(untouched));
        check.due("the members after " + what, removed(touched), removed(untouched));
    }

    /** All that can be asked without a change. */
    private static String told(StreamIds x) {
        StringBuilder text = new StringBuilder();
        text.append(x.type(0, 0)).append(' ').append(x.type(1, 0));
        for (int number = 0; number < 4; number++) {
            text.append(" | ").append(x.id(number)).append(' ').append(x.size(number));
            for (int what = 0; what < 8; what++) {
                text.append(' ').append(x.count(number, what));
            }
            for (int k = 0; k < 6; k++) {
                text.append(' ').append(x.part(number, k)).append(' ').append(x.hash(number, k));
            }
        }
        return text.toString();
    }

    /** The buffers' signs can only be seen in a class, so class 3 is made of them. */
    private static String buffersOf(StreamIds x) {
        StringBuilder text = new StringBuilder();
        text.append(x.define(3, 0));
        for (int kind = 0; kind < 3; kind++) {
            text.append(' ').append(x.member(3, kind, 0)).append(' ').append(x.hash(3, 0));
        }
        return text.append(' ').append(x.clear(0)).append(' ').append(x.clear(1)).toString();
    }

    /** Which members there are, the hidden ones among them: each is found and removed. */
    private static String removed(StreamIds x) {
        StringBuilder text = new StringBuilder();
        for (String[] each : SOME_MEMBERS) {
            int kind = Integer.parseInt(each[0]);
            text.append(Check.remove(x, 0, kind, each[1], each[2])).append(' ');
        }
        for (String each : TEN_FIELDS) {
            text.append(Check.remove(x, 1, 0, each, "")).append(' ');
        }
        for (String kind : CALLS_OF_TEN) {
            int left = Check.remove(x, 1, Integer.parseInt(kind), "m", "()V");
            text.append(left).append(' ');
        }
        return text.toString();
    }
}
