/** What the project's tests share: a count of wrong answers, and texts put into buffers. */
final class Check {
    private int done = 0;
    private int wrong = 0;
    private String sentence = "";
    private int doneBeforeSentence = -1;

    /** The words of the document that the answers from here on are due to. */
    void sentence(String words) {
        endSentence();
        sentence = "\"" + words + "\": ";
        doneBeforeSentence = done;
    }

    void due(String call, long got, long want) {
        done++;
        if (got != want) {
            tellWrong(call + " answered " + got + ", due is " + want);
        }
    }

    void due(String what, String got, String want) {
        done++;
        if (!got.equals(want)) {
            tellWrong(what + " is " + got + ", due is " + want);
        }
    }

    private void tellWrong(String text) {
        wrong++;
        System.out.println(sentence + text);
    }

    /** A sentence that nothing was asked about would pass whatever the program does. */
    private void endSentence() {
        if (done == doneBeforeSentence) {
            tellWrong("nothing was tested");
        }
    }

    int wrongSoFar() {
        return wrong;
    }

    void end() {
        endSentence();
        System.out.println(done + " answers, " + wrong + " of them wrong");
        if (wrong != 0 || done == 0) {
            System.exit(1);
        }
    }

    /** The number whose bytes are the signs of a text of at most eight. */
    static long signs(String text) {
        long number = 0;
        for (int i = 0; i < text.length(); i++) {
            number = number << 8 | text.charAt(i);
        }
        return number;
    }

    static void put(StreamIds x, int buffer, String text) {
        x.clear(buffer);
        for (int i = 0; i < text.length(); i += 8) {
            x.type(buffer, signs(text.substring(i, Math.min(text.length(), i + 8))));
        }
    }

    static int define(StreamIds x, int number, String name, int modifiers) {
        put(x, 0, name);
        return x.define(number, modifiers);
    }

    static int face(StreamIds x, int number, String name) {
        put(x, 0, name);
        return x.face(number);
    }

    static int field(StreamIds x, int number, String name, String shape, int modifiers) {
        put(x, 0, name);
        put(x, 1, shape);
        return x.member(number, 0, modifiers);
    }

    static int constructor(StreamIds x, int number, String shape, int modifiers) {
        put(x, 0, "");
        put(x, 1, shape);
        return x.member(number, 1, modifiers);
    }

    static int method(StreamIds x, int number, String name, String shape, int modifiers) {
        put(x, 0, name);
        put(x, 1, shape);
        return x.member(number, 2, modifiers);
    }

    static int start(StreamIds x, int number) {
        put(x, 0, "");
        put(x, 1, "");
        return x.member(number, 3, 0);
    }

    static int remove(StreamIds x, int number, int kind, String name, String shape) {
        put(x, 0, name);
        put(x, 1, shape);
        return x.remove(number, kind);
    }

    static byte[] bytes(StreamIds x, int number) {
        byte[] all = new byte[Math.max(0, x.size(number))];
        for (int i = 0; i < all.length; i++) {
            all[i] = (byte) x.byteAt(number, i);
        }
        return all;
    }

    static String hex(byte[] bytes) {
        StringBuilder text = new StringBuilder();
        for (byte each : bytes) {
            text.append(String.format("%02x", each & 0xFF));
        }
        return text.toString();
    }

    /** Signs as they are, other bytes as two hexadecimal digits in braces. */
    static String readable(byte[] bytes) {
        StringBuilder text = new StringBuilder();
        for (byte each : bytes) {
            boolean sign = each >= 33 && each <= 126;
            text.append(sign ? String.valueOf((char) each) : String.format("{%02x}", each & 0xFF));
        }
        return text.toString();
    }
}
