/** Promises 1 to 3: a new object, type and clear. */
public final class BuffersTest {
    private static final Check CHECK = new Check();

    public static void main(String[] args) {
        newObject();
        typing();
        refusedSigns();
        fullBuffers();
        clearing();
        wrongBuffers();
        CHECK.end();
    }

    private static void newObject() {
        StreamIds x = new StreamIds();
        for (int number = -1; number <= 4; number++) {
            CHECK.due("size of class " + number + " when new", x.size(number), StreamIds.REFUSED);
            CHECK.due("id of class " + number + " when new", x.id(number), StreamIds.NONE);
            CHECK.due("count of class " + number + " when new", x.count(number, 1), StreamIds.REFUSED);
        }
        CHECK.due("clear(0) when new", x.clear(0), 0);
        CHECK.due("clear(1) when new", x.clear(1), 0);
    }

    private static void typing() {
        StreamIds x = new StreamIds();
        CHECK.due("one sign", x.type(0, 'A'), 1);
        CHECK.due("a sign in the highest byte", x.type(0, (long) 'B' << 56), 2);
        CHECK.due("signs with zeros between", x.type(0, (long) 'C' << 48 | (long) 'D' << 24 | 'E'), 5);
        CHECK.due("no signs", x.type(0, 0), 5);
        CHECK.due("the lowest and the highest sign", x.type(0, 33 << 8 | 126), 7);
        CHECK.due("the other buffer", x.type(1, 'I'), 1);
        x.define(0, 0);
        CHECK.due("the name", Check.readable(Check.bytes(x, 0)), "{00}{07}ABCDE!~{00}{00}{00}{00}");
    }

    private static void refusedSigns() {
        StreamIds x = new StreamIds();
        int[] wrong = {1, 32, 127, 128, 255};
        for (int sign : wrong) {
            for (int place = 0; place < 8; place++) {
                long signs = 0x4141414141414141L & ~(255L << 8 * place) | (long) sign << 8 * place;
                CHECK.due("sign " + sign + " in byte " + place, x.type(0, signs), StreamIds.REFUSED);
            }
        }
        CHECK.due("all bits", x.type(0, -1L), StreamIds.REFUSED);
        CHECK.due("refused signs leave the buffer empty", x.clear(0), 0);
        Check.put(x, 0, "abcdefghijklmnopqrstuvwx");
        CHECK.due("wrong signs for a full buffer", x.type(0, 'A' << 8 | 32), StreamIds.REFUSED);
    }

    private static void fullBuffers() {
        for (int buffer = 0; buffer < 2; buffer++) {
            StreamIds x = new StreamIds();
            Check.put(x, buffer, "abcdefghijklmnopqrst");
            CHECK.due("five signs where four have room", x.type(buffer, Check.signs("uvwxy")), StreamIds.FULL);
            CHECK.due("nothing of them was put", x.type(buffer, 0), 20);
            CHECK.due("four signs with zeros between", x.type(buffer, 0x7500760077000078L), 24);
            CHECK.due("a sign too many", x.type(buffer, 'z'), StreamIds.FULL);
            CHECK.due("no sign too many", x.type(buffer, 0), 24);
            CHECK.due("clear", x.clear(buffer), 24);
        }
    }

    private static void clearing() {
        StreamIds x = new StreamIds();
        x.type(0, Check.signs("abc"));
        x.type(1, Check.signs("de"));
        CHECK.due("clear(0)", x.clear(0), 3);
        CHECK.due("clear(0) again", x.clear(0), 0);
        CHECK.due("buffer 1 is as it was", x.clear(1), 2);
        CHECK.due("type after clear", x.type(0, 'x'), 1);
        x.define(0, 0);
        CHECK.due("the new sign", x.byteAt(0, 2), 'x');
        x.clear(0);
        CHECK.due("the class keeps its name", x.byteAt(0, 2), 'x');
    }

    private static void wrongBuffers() {
        StreamIds x = new StreamIds();
        int[] wrong = {-1, 2, Integer.MIN_VALUE, Integer.MAX_VALUE};
        for (int buffer : wrong) {
            CHECK.due("type(" + buffer + ")", x.type(buffer, 'a'), StreamIds.REFUSED);
            CHECK.due("clear(" + buffer + ")", x.clear(buffer), StreamIds.REFUSED);
        }
    }
}
