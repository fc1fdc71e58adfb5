import java.util.Random;

/** Runs of 512 calls with seeds that never change, each answer compared with the oracle's. */
public final class RandomRunsTest {
    private static final int RUNS = 400;
    private static final int CALLS = 512;
    private static final String[] NAMES = {
        "a", "b", "ab", "aa", "A", "<init>", "a.b", "a/b", "~", "!",
        "abcdefghijklmnopqrstuvwx", "abcdefghijklmnopqrstuvwy", "serialVersionUID"};
    private static final String[] SHAPES = {
        "I", "J", "[I", "[[[Z", "[[[[Z", "La/b;", "L;", "La,b;", "La.b;", "V", "[", "LI", "II",
        "()V", "()I", "(I)V", "(La/b;)V", "(La0b;)V", "(La-b;)V", "(La.b;)V", "([[[J[[[J)La/b;",
        "([[[[J)V", "(V)V", "()", "(", "()VV", "()[V", "(La/b;La/b;La/b;La/)V", "(IIIIIIIIIIIIIIIIIIIII)V",
        "(La/b;La/b;La/b;La/b;)V"};
    private static final int[] FLAGS = {0, 1, 2, 8, 10, 130, 512, 513, 1024, 1537, 16384, -1, 65536, 4095};

    private final Check check;
    private final Random random;
    private final String run;
    private final StreamIds x = new StreamIds();
    private final Oracle oracle = new Oracle();

    private RandomRunsTest(Check check, int seed) {
        this.check = check;
        this.random = new Random(seed);
        this.run = "seed " + seed + ": ";
    }

    public static void main(String[] args) {
        Check check = new Check();
        for (int seed = 1; seed <= RUNS && check.wrongSoFar() == 0; seed++) {
            new RandomRunsTest(check, seed).runAll();
        }
        check.end();
    }

    private void runAll() {
        // A run that mostly declares fills the rows; one that mostly asks sees each step's bytes.
        int declaring = 30 + random.nextInt(60);
        int calls = 0;
        // One step more takes at most four calls, and the last questions take eight.
        while (calls <= CALLS - 12) {
            calls += random.nextInt(100) < declaring ? change() : ask();
        }
        for (int number = 0; number < 4; number++) {
            check.due(run + "last id(" + number + ")", x.id(number), oracle.id(number));
            check.due(run + "last hash(" + number + ", 4)", x.hash(number, 4), oracle.hash(number, 4));
        }
    }

    private int classNumber() {
        return random.nextInt(20) == 0 ? random.nextInt(8) - 2 : random.nextInt(2);
    }

    private int modifiers() {
        return random.nextBoolean() ? FLAGS[random.nextInt(FLAGS.length)] : random.nextInt();
    }

    private int change() {
        int number = classNumber();
        int kind = random.nextInt(30) == 0 ? random.nextInt(8) - 2 : random.nextInt(4);
        int flags = modifiers();
        switch (random.nextInt(24)) {
            case 0:
                check.due(run + "define", x.define(number, flags), oracle.define(number, flags));
                return 1;
            case 1: case 2: case 3:
                check.due(run + "face", x.face(number), oracle.face(number));
                return 1;
            case 4: case 5:
                check.due(run + "remove", x.remove(number, kind), oracle.remove(number, kind));
                return 1;
            case 6:
                boolean on = random.nextBoolean();
                long id = random.nextLong();
                check.due(run + "declare", x.declare(number, on, id), oracle.declare(number, on, id));
                return 1;
            case 7:
                return typeAnything();
            case 8: case 9: case 10: case 11:
                return fill(0, NAMES[random.nextInt(NAMES.length)]);
            case 12: case 13: case 14: case 15:
                return fill(1, SHAPES[random.nextInt(SHAPES.length)]);
            default:
                check.due(run + "member", x.member(number, kind, flags), oracle.member(number, kind, flags));
                return 1;
        }
    }

    private int typeAnything() {
        int buffer = random.nextInt(5) - 1;
        long signs = random.nextBoolean() ? random.nextLong() : random.nextInt(128);
        check.due(run + "type", x.type(buffer, signs), oracle.type(buffer, signs));
        return 1;
    }

    private int fill(int buffer, String text) {
        int calls = 1;
        check.due(run + "clear", x.clear(buffer), oracle.clear(buffer));
        for (int i = 0; i < text.length(); i += 8) {
            long signs = Check.signs(text.substring(i, Math.min(text.length(), i + 8)));
            check.due(run + "type", x.type(buffer, signs), oracle.type(buffer, signs));
            calls++;
        }
        return calls;
    }

    private int ask() {
        int number = classNumber();
        int i = random.nextInt(12) - 2;
        int place = random.nextInt(300) - 1;
        switch (random.nextInt(6)) {
            case 0:
                check.due(run + "id", x.id(number), oracle.id(number));
                break;
            case 1:
                check.due(run + "hash", x.hash(number, i), oracle.hash(number, i));
                break;
            case 2:
                check.due(run + "size", x.size(number), oracle.size(number));
                break;
            case 3:
                check.due(run + "byteAt", x.byteAt(number, place), oracle.byteAt(number, place));
                break;
            case 4:
                check.due(run + "part", x.part(number, i), oracle.part(number, i));
                break;
            default:
                check.due(run + "count", x.count(number, i), oracle.count(number, i));
                break;
        }
        return 1;
    }
}
