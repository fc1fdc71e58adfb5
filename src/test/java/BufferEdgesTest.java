/** The Terms' first sentence and promises 1 to 3, sentence by sentence: their edges. */
public final class BufferEdgesTest {
    private static final Check CHECK = new Check();
    private static final int REFUSED = StreamIds.REFUSED;
    private static final int FULL = StreamIds.FULL;
    private static final String LONGEST = "abcdefghijklmnopqrstuvwx";

    public static void main(String[] args) {
        whichBuffers();
        emptyAtFirst();
        atMostSigns();
        codes();
        noClasses();
        highestFirst();
        zerosLeftOut();
        atTheEnd();
        wrongSignInEachByte();
        tooLong();
        zerosTakeNoRoom();
        lengths();
        emptied();
        howLongItWas();
        the512thCall();
        CHECK.end();
    }

    private static String nameOf(StreamIds x) {
        x.define(0, 0);
        StringBuilder name = new StringBuilder();
        for (int i = 2; i < x.size(0) - 4; i++) {
            name.append((char) x.byteAt(0, i));
        }
        return name.toString();
    }

    private static void whichBuffers() {
        CHECK.sentence("BUFFERS 0 NAME and 1 SHAPE");
        StreamIds x = new StreamIds();
        x.type(1, 'I');
        CHECK.due("define with signs in 1 alone", x.define(0, 0), StreamIds.BAD);
        x.type(0, 'C');
        CHECK.due("define with a sign in 0", x.define(0, 0), StreamIds.DONE);
        CHECK.due("a field of what is in 0 and 1", x.member(0, 0, 0), 1);
        CHECK.due("its name", x.byteAt(0, 9), 'C');
        CHECK.due("its shape", x.byteAt(0, 16), 'I');
    }

    private static void emptyAtFirst() {
        CHECK.sentence("BUFFERS .. empty at first");
        for (int buffer = 0; buffer < 2; buffer++) {
            CHECK.due("the length of " + buffer, new StreamIds().type(buffer, 0), 0);
            CHECK.due("clear of " + buffer, new StreamIds().clear(buffer), 0);
        }
        CHECK.due("define at first", new StreamIds().define(0, 0), StreamIds.BAD);
    }

    private static void atMostSigns() {
        CHECK.sentence("at most 24 signs each");
        for (int buffer = 0; buffer < 2; buffer++) {
            StreamIds x = new StreamIds();
            for (int i = 1; i <= 24; i++) {
                CHECK.due("sign " + i, x.type(buffer, 'a'), i);
            }
            CHECK.due("sign 25", x.type(buffer, 'a'), FULL);
            CHECK.due("the other buffer has its own room", x.type(1 - buffer, 'a'), 1);
        }
    }

    private static void codes() {
        CHECK.sentence("(codes 33 .. 126)");
        for (int buffer = 0; buffer < 2; buffer++) {
            for (int code = 1; code < 256; code++) {
                int due = code >= 33 && code <= 126 ? 1 : REFUSED;
                CHECK.due("code " + code + " in " + buffer, new StreamIds().type(buffer, code), due);
            }
        }
    }

    private static void noClasses() {
        CHECK.sentence("Promise 1: No classes.");
        for (int number = 0; number < 4; number++) {
            StreamIds x = new StreamIds();
            Twins.putTexts(x, "a", "I");
            CHECK.due("face", x.face(number), REFUSED);
            CHECK.due("member", x.member(number, 0, 0), REFUSED);
            CHECK.due("remove", x.remove(number, 0), REFUSED);
            CHECK.due("declare", x.declare(number, true, 1), REFUSED);
            CHECK.due("id", x.id(number), StreamIds.NONE);
            CHECK.due("hash", x.hash(number, 0), StreamIds.NONE);
            CHECK.due("size", x.size(number), REFUSED);
            CHECK.due("byteAt", x.byteAt(number, 0), REFUSED);
            CHECK.due("part", x.part(number, 0), REFUSED);
            CHECK.due("count", x.count(number, 0), REFUSED);
        }
    }

    private static void highestFirst() {
        CHECK.sentence("The bytes of the number, from the highest on");
        StreamIds x = new StreamIds();
        CHECK.due("eight signs", x.type(0, 0x2142434445464E7EL), 8);
        CHECK.due("the name", nameOf(x), "!BCDEFN~");
    }

    private static void zerosLeftOut() {
        CHECK.sentence("those that are 0 left out");
        StreamIds x = new StreamIds();
        CHECK.due("none but zeros", x.type(0, 0), 0);
        CHECK.due("the highest byte alone", x.type(0, 'a' * (1L << 56)), 1);
        CHECK.due("the lowest byte alone", x.type(0, 'b'), 2);
        CHECK.due("zeros between", x.type(0, 0x6300640000650066L), 6);
        CHECK.due("zeros around", x.type(0, 0x0000676800000000L), 8);
        CHECK.due("the name", nameOf(x), "abcdefgh");
        Check.put(x, 0, LONGEST);
        CHECK.due("none but zeros for a full buffer", x.type(0, 0), 24);
        CHECK.due("its name", nameOf(x), LONGEST);
    }

    private static void atTheEnd() {
        CHECK.sentence("are put at the end of buffer 0 or 1");
        StreamIds x = new StreamIds();
        x.type(0, Check.signs("ab"));
        x.type(1, Check.signs("xyz"));
        CHECK.due("more signs", x.type(0, Check.signs("cd")), 4);
        CHECK.due("the name", nameOf(x), "abcd");
        for (int buffer : new int[] {-1, 2, 3, Integer.MIN_VALUE, Integer.MAX_VALUE}) {
            CHECK.due("type(" + buffer + ", 'a')", x.type(buffer, 'a'), REFUSED);
            CHECK.due("type(" + buffer + ", 0)", x.type(buffer, 0), REFUSED);
        }
        CHECK.due("buffer 1 has its own", x.clear(1), 3);
    }

    private static void wrongSignInEachByte() {
        CHECK.sentence("One is none of 33 .. 126: REFUSED.");
        for (int code : new int[] {1, 10, 31, 32, 127, 128, 160, 161, 254, 255}) {
            StreamIds x = new StreamIds();
            for (int place = 0; place < 64; place += 8) {
                long signs = 0x6161616161616161L & ~(255L << place) | (long) code << place;
                CHECK.due("code " + code + " among others", x.type(0, signs), REFUSED);
                CHECK.due("code " + code + " alone", x.type(0, (long) code << place), REFUSED);
            }
            CHECK.due("nothing was put", x.clear(0), 0);
        }
    }

    private static void tooLong() {
        CHECK.sentence("It would be too long: FULL.");
        for (int before = 0; before <= 24; before++) {
            for (int more = 0; more <= 8; more++) {
                StreamIds x = new StreamIds();
                Check.put(x, 1, LONGEST.substring(0, before));
                long signs = Check.signs("ABCDEFGH".substring(0, more));
                boolean fits = before + more <= 24;
                int due = fits ? before + more : FULL;
                CHECK.due(more + " signs behind " + before, x.type(1, signs), due);
                CHECK.due("the length then", x.clear(1), fits ? before + more : before);
            }
        }
        StreamIds x = new StreamIds();
        Check.put(x, 0, LONGEST.substring(0, 23));
        CHECK.due("two signs where one has room", x.type(0, Check.signs("yz")), FULL);
        CHECK.due("none of them was put", nameOf(x), LONGEST.substring(0, 23));
        CHECK.due("one has room", x.type(0, 'x'), 24);
        CHECK.due("it was put", nameOf(x), LONGEST);
    }

    private static void zerosTakeNoRoom() {
        CHECK.sentence("those that are 0 left out (before it is seen whether it would be too long)");
        long[] spread = {0, 0x6100L, 0x6100000061000000L, 0x6100610000006100L, 0x6100610061006100L};
        for (int more = 0; more < spread.length; more++) {
            StreamIds x = new StreamIds();
            Check.put(x, 0, LONGEST.substring(0, 24 - more));
            CHECK.due(more + " signs that just have room", x.type(0, spread[more]), 24);
            Check.put(x, 0, LONGEST.substring(0, 25 - Math.max(1, more)));
            CHECK.due("one too many", x.type(0, spread[more]), more == 0 ? 24 : FULL);
        }
    }

    private static void lengths() {
        CHECK.sentence("Promise 2: Answers its length.");
        StreamIds x = new StreamIds();
        CHECK.due("the least", x.type(0, 0), 0);
        CHECK.due("eight", x.type(0, Check.signs("abcdefgh")), 8);
        CHECK.due("sixteen", x.type(0, Check.signs("abcdefgh")), 16);
        CHECK.due("the most", x.type(0, Check.signs("abcdefgh")), 24);
    }

    private static void emptied() {
        CHECK.sentence("The buffer 0 or 1 is empty.");
        StreamIds x = new StreamIds();
        Twins.putTexts(x, LONGEST, "I");
        CHECK.due("clear of a full one", x.clear(0), 24);
        CHECK.due("define then", x.define(0, 0), StreamIds.BAD);
        CHECK.due("a sign then", x.type(0, 'z'), 1);
        CHECK.due("the name", nameOf(x), "z");
        CHECK.due("the other one is as it was", x.type(1, 0), 1);
        CHECK.due("clear of the other one", x.clear(1), 1);
        CHECK.due("a field then", x.member(0, 0, 0), StreamIds.BAD);
        CHECK.due("the name is as it was", x.type(0, 0), 1);
        for (int buffer : new int[] {-1, 2, 3, Integer.MIN_VALUE, Integer.MAX_VALUE}) {
            CHECK.due("clear(" + buffer + ")", x.clear(buffer), REFUSED);
        }
    }

    private static void howLongItWas() {
        CHECK.sentence("Answers how long it was.");
        for (int buffer = 0; buffer < 2; buffer++) {
            for (int length = 0; length <= 24; length++) {
                StreamIds x = new StreamIds();
                Check.put(x, buffer, LONGEST.substring(0, length));
                CHECK.due("clear of " + length, x.clear(buffer), length);
                CHECK.due("clear of an empty one", x.clear(buffer), 0);
            }
        }
    }

    /** Six calls make the class, 505 only pass the time. */
    private static StreamIds before512thCall() {
        StreamIds x = new StreamIds();
        x.type(0, 'C');
        x.define(0, 1);
        x.type(1, 'I');
        x.member(0, 0, 0);
        x.type(0, 'D');
        x.declare(0, true, 9);
        for (int i = 0; i < 505; i++) {
            x.type(1, 0);
        }
        return x;
    }

    private static void the512thCall() {
        CHECK.sentence("An object is used for at most 512 calls after it has been made");
        CHECK.due("type", before512thCall().type(0, 'E'), 3);
        CHECK.due("clear", before512thCall().clear(0), 2);
        CHECK.due("define", before512thCall().define(3, 0), StreamIds.DONE);
        CHECK.due("face", before512thCall().face(0), 1);
        CHECK.due("member", before512thCall().member(0, 0, 0), 2);
        CHECK.due("remove", before512thCall().remove(0, 0), StreamIds.BAD);
        CHECK.due("declare", before512thCall().declare(0, false, 0), StreamIds.DONE);
        CHECK.due("id", before512thCall().id(0), 9);
        CHECK.due("size", before512thCall().size(0), 17);
        CHECK.due("byteAt", before512thCall().byteAt(0, 16), 'I');
        CHECK.due("part", before512thCall().part(0, 3), 17);
        CHECK.due("count", before512thCall().count(0, 7), 1);
        byte[] bytes = {0, 1, 'C', 0, 0, 0, 1, 0, 1, 'C', 0, 0, 0, 0, 0, 1, 'I'};
        int due = java.nio.ByteBuffer.wrap(Oracle.sha(bytes)).getInt(16);
        CHECK.due("hash", before512thCall().hash(0, 4), due);
    }
}
