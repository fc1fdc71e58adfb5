import java.io.ObjectStreamClass;
import java.io.Serializable;
import java.nio.ByteBuffer;
import java.nio.ByteOrder;

/** Promises 9 and 10: id and hash. */
public final class IdentifiersTest {
    private static final Check CHECK = new Check();

    public static void main(String[] args) {
        everyLength();
        classOfTheRuntime();
        interfaceOfTheRuntime();
        whichIdentifier();
        hashesWithoutIdentifier();
        refusals();
        CHECK.end();
    }

    private static void compare(StreamIds x, String what) {
        ByteBuffer due = ByteBuffer.wrap(Oracle.sha(Check.bytes(x, 0)));
        for (int k = 0; k < 5; k++) {
            CHECK.due("hash " + k + " of " + what, x.hash(0, k), due.getInt(4 * k));
        }
        CHECK.due("id of " + what, x.id(0), due.order(ByteOrder.LITTLE_ENDIAN).getLong(0));
    }

    /** Every number of bytes from 7 to 134, so that each edge of the padding is met. */
    private static void everyLength() {
        String signs = "abcdefghijklmnopqrstuvwx";
        for (int faces = 0; faces <= 4; faces++) {
            for (int length = 1; length <= 24; length++) {
                StreamIds x = new StreamIds();
                Check.define(x, 0, signs.substring(0, length), 1);
                for (int i = 0; i < faces; i++) {
                    Check.face(x, 0, signs.substring(0, 23) + i);
                }
                compare(x, x.size(0) + " bytes");
            }
        }
    }

    /** A class whose identifier the runtime computes by the same rules. */
    private static void classOfTheRuntime() {
        StreamIds x = new StreamIds();
        Check.define(x, 0, RuntimeSample.class.getName(), 0);
        Check.face(x, 0, "java.io.Serializable");
        Check.face(x, 0, "java.lang.Runnable");
        Check.field(x, 0, "b", "I", 0);
        Check.field(x, 0, "a", "Ljava/lang/String;", 2);
        Check.field(x, 0, "hidden", "J", 2 | 128);
        Check.field(x, 0, "shared", "[[D", 8 | 1);
        Check.start(x, 0);
        Check.constructor(x, 0, "()V", 0);
        Check.constructor(x, 0, "(Ljava/lang/Object;)V", 4);
        Check.method(x, 0, "run", "()V", 1);
        Check.method(x, 0, "m", "(Ljava/lang/String;)I", 8 | 32);
        CHECK.due("how many members", x.count(0, 1), 9);
        CHECK.due("the runtime's identifier of a class", x.id(0),
                ObjectStreamClass.lookup(RuntimeSample.class).getSerialVersionUID());
    }

    private static void interfaceOfTheRuntime() {
        StreamIds x = new StreamIds();
        Check.define(x, 0, RuntimeFace.class.getName(), 512);
        Check.face(x, 0, "java.io.Serializable");
        Check.method(x, 0, "go", "(J)Ljava/lang/Object;", 1 | 1024);
        CHECK.due("the runtime's identifier of an interface", x.id(0),
                ObjectStreamClass.lookup(RuntimeFace.class).getSerialVersionUID());
    }

    private static void whichIdentifier() {
        StreamIds x = new StreamIds();
        Check.define(x, 0, "E", 16384);
        CHECK.due("id of constants", x.id(0), 0);
        x.declare(0, true, 77);
        CHECK.due("id of constants with one declared", x.id(0), 0);
        CHECK.due("it is declared all the same", x.count(0, 7), 1);
        Check.define(x, 0, "E", 8192 | 32768);
        x.declare(0, true, 77);
        CHECK.due("the declared id", x.id(0), 77);
        Check.define(x, 0, "E", 0);
        compare(x, "the class defined anew");
    }

    private static void hashesWithoutIdentifier() {
        StreamIds x = new StreamIds();
        Check.define(x, 0, "E", 0);
        long plain = x.hash(0, 3);
        x.declare(0, true, 1);
        CHECK.due("hash with an id declared", x.hash(0, 3), plain);
        Check.define(x, 0, "E", 16384);
        CHECK.due("hash of constants", x.hash(0, 3), plain);
        Check.define(x, 1, "F", 0);
        x.id(1);
        CHECK.due("hash after another class's", x.hash(0, 3), plain);
        Check.field(x, 0, "f", "I", 10);
        CHECK.due("hash with a hidden field", x.hash(0, 3), plain);
    }

    private static void refusals() {
        StreamIds x = new StreamIds();
        Check.define(x, 0, "E", 0);
        for (int number : new int[] {-1, 1, 4, Integer.MIN_VALUE, Integer.MAX_VALUE}) {
            CHECK.due("id(" + number + ")", x.id(number), StreamIds.NONE);
            CHECK.due("hash(" + number + ", 0)", x.hash(number, 0), StreamIds.NONE);
        }
        for (int k : new int[] {-1, 5, Integer.MIN_VALUE, Integer.MAX_VALUE}) {
            CHECK.due("hash(0, " + k + ")", x.hash(0, k), StreamIds.NONE);
        }
    }
}

interface RuntimeFace extends Serializable {
    Object go(long number);
}

@SuppressWarnings("serial")
class RuntimeSample implements Serializable, Runnable {
    public static double[][] shared = {{1}};
    int b;
    private String a;
    private transient long hidden;

    RuntimeSample() {
    }

    protected RuntimeSample(Object o) {
    }

    @Override
    public void run() {
    }

    static synchronized int m(String text) {
        return 0;
    }
}
