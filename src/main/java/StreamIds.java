/**
 * The stream identifiers of classes: what is declared of a class is put in canonical order into
 * bytes, these are hashed by the secure hash of 160 bits, and eight bytes of the hash are the
 * identifier, unless one is declared.
 */
public final class StreamIds {
    public static final int DONE = 0;
    public static final int REFUSED = -1;
    public static final int BAD = -2;
    public static final int TWICE = -3;
    public static final int FULL = -4;
    public static final long NONE = -9000000000000000001L;

    private static final int MOST_SIGNS = 24;
    private static final int MOST_CLASSES = 4;
    private static final int MOST_FACES = 4;
    private static final int MOST_MEMBERS = 10;

    private static final int FIELD = 0;
    private static final int CONSTRUCTOR = 1;
    private static final int METHOD = 2;
    private static final int START = 3;
    // An interface name is held as an entry too, of a kind that no caller can ask for.
    private static final int FACE = 4;

    private static final int PRIVATE = 2;
    private static final int STATIC = 8;
    private static final int TRANSIENT = 128;
    private static final int INTERFACE = 512;
    private static final int ABSTRACT = 1024;
    private static final int CONSTANTS = 16384;
    private static final int KEPT_MODIFIERS = 0xFFFF;
    private static final int CLASS_MODIFIERS = 1 | 16 | INTERFACE | ABSTRACT;
    private static final int FIELD_MODIFIERS = 1 | PRIVATE | 4 | STATIC | 16 | 64 | TRANSIENT;
    private static final int METHOD_MODIFIERS =
            1 | PRIVATE | 4 | STATIC | 16 | 32 | 256 | ABSTRACT | 2048;

    private static final int PARTS = 6;
    // The head, the interface names and the members, each with texts as long as a buffer.
    private static final int MOST_BYTES = (2 + MOST_SIGNS + 4) + MOST_FACES * (2 + MOST_SIGNS)
            + MOST_MEMBERS * (2 + MOST_SIGNS + 4 + 2 + MOST_SIGNS);

    private static final int HASH_NUMBERS = 5;
    private static final int BLOCK_BYTES = 64;
    private static final int ROUNDS = 80;
    private static final int[] HASH_BEGIN =
            {0x67452301, 0xEFCDAB89, 0x98BADCFE, 0x10325476, 0xC3D2E1F0};
    private static final int[] ROUND_NUMBERS = {0x5A827999, 0x6ED9EBA1, 0x8F1BBCDC, 0xCA62C1D6};

    private final Text name = new Text();
    private final Text shape = new Text();
    private final Declaration[] declarations = new Declaration[MOST_CLASSES];
    private final Layout layout = new Layout();
    private final Digest digest = new Digest();

    public StreamIds() {
        for (int i = 0; i < MOST_CLASSES; i++) {
            declarations[i] = new Declaration();
        }
    }

    public int type(int buffer, long signs) {
        Text text = bufferOf(buffer);
        if (text == null || !areSigns(signs)) {
            return REFUSED;
        }
        if (text.length + signsIn(signs) > MOST_SIGNS) {
            return FULL;
        }
        for (int shift = 56; shift >= 0; shift -= 8) {
            int sign = byteOf(signs, shift);
            if (sign != 0) {
                text.append(sign);
            }
        }
        return text.length;
    }

    public int clear(int buffer) {
        Text text = bufferOf(buffer);
        if (text == null) {
            return REFUSED;
        }
        int before = text.length;
        text.length = 0;
        return before;
    }

    public int define(int number, int modifiers) {
        if (number < 0 || number >= MOST_CLASSES) {
            return REFUSED;
        }
        if (name.length == 0) {
            return BAD;
        }
        declarations[number].begin(name, modifiers & KEPT_MODIFIERS);
        return DONE;
    }

    public int face(int number) {
        Declaration declaration = declarationOf(number);
        if (declaration == null) {
            return REFUSED;
        }
        if (name.length == 0) {
            return BAD;
        }
        return declaration.faces.enter(FACE, 0, name, shape);
    }

    public int member(int number, int kind, int modifiers) {
        Declaration declaration = declarationOf(number);
        if (declaration == null || !isMemberKind(kind)) {
            return REFUSED;
        }
        if (!isNameFor(kind) || !isShapeFor(kind)) {
            return BAD;
        }
        return declaration.members.enter(kind, modifiers & KEPT_MODIFIERS, name, shape);
    }

    public int remove(int number, int kind) {
        Declaration declaration = declarationOf(number);
        if (declaration == null || !isMemberKind(kind)) {
            return REFUSED;
        }
        return declaration.members.takeOut(kind, name, shape);
    }

    public int declare(int number, boolean on, long id) {
        Declaration declaration = declarationOf(number);
        if (declaration == null) {
            return REFUSED;
        }
        declaration.hasOwnId = on;
        declaration.ownId = id;
        return DONE;
    }

    public long id(int number) {
        Declaration declaration = declarationOf(number);
        if (declaration == null) {
            return NONE;
        }
        if ((declaration.modifiers & CONSTANTS) != 0) {
            return 0;
        }
        if (declaration.hasOwnId) {
            return declaration.ownId;
        }
        layout.write(declaration);
        digest.take(layout);
        return digest.firstEightReversed();
    }

    public long hash(int number, int k) {
        Declaration declaration = declarationOf(number);
        if (declaration == null || k < 0 || k >= HASH_NUMBERS) {
            return NONE;
        }
        layout.write(declaration);
        digest.take(layout);
        return digest.numbers[k];
    }

    public int size(int number) {
        Declaration declaration = declarationOf(number);
        if (declaration == null) {
            return REFUSED;
        }
        layout.write(declaration);
        return layout.length;
    }

    public int byteAt(int number, int i) {
        Declaration declaration = declarationOf(number);
        if (declaration == null) {
            return REFUSED;
        }
        layout.write(declaration);
        return i >= 0 && i < layout.length ? layout.at(i) : REFUSED;
    }

    public int part(int number, int k) {
        Declaration declaration = declarationOf(number);
        if (declaration == null || k < 0 || k >= PARTS) {
            return REFUSED;
        }
        layout.write(declaration);
        return layout.begins[k];
    }

    public int count(int number, int what) {
        Declaration declaration = declarationOf(number);
        if (declaration == null) {
            return REFUSED;
        }
        switch (what) {
            case 0: return declaration.faces.used;
            case 1: return declaration.members.used;
            case 2: return declaration.members.tally(FIELD);
            case 3: return declaration.members.tally(CONSTRUCTOR);
            case 4: return declaration.members.tally(METHOD);
            case 5: return declaration.members.tally(START);
            case 6: return declaration.modifiers;
            case 7: return declaration.hasOwnId ? 1 : 0;
            default: return REFUSED;
        }
    }

    private Text bufferOf(int buffer) {
        if (buffer == 0) {
            return name;
        }
        return buffer == 1 ? shape : null;
    }

    /** Null if there is no such class, which every caller but define refuses. */
    private Declaration declarationOf(int number) {
        if (number < 0 || number >= MOST_CLASSES || !declarations[number].isThere) {
            return null;
        }
        return declarations[number];
    }

    private static boolean isMemberKind(int kind) {
        return kind >= FIELD && kind <= START;
    }

    private boolean isNameFor(int kind) {
        return kind == CONSTRUCTOR || kind == START || name.length > 0;
    }

    private boolean isShapeFor(int kind) {
        switch (kind) {
            case FIELD: return Shapes.isType(shape);
            // No TYPE SHAPE ends in V, so a last V is what the method answers.
            case CONSTRUCTOR: return Shapes.isMethod(shape) && shape.at(shape.length - 1) == 'V';
            case METHOD: return Shapes.isMethod(shape);
            default: return true;
        }
    }

    private static int byteOf(long signs, int shift) {
        return (int) (signs >>> shift) & 0xFF;
    }

    private static boolean areSigns(long signs) {
        for (int shift = 56; shift >= 0; shift -= 8) {
            int sign = byteOf(signs, shift);
            if (sign != 0 && (sign < 33 || sign > 126)) {
                return false;
            }
        }
        return true;
    }

    private static int signsIn(long signs) {
        int found = 0;
        for (int shift = 56; shift >= 0; shift -= 8) {
            if (byteOf(signs, shift) != 0) {
                found++;
            }
        }
        return found;
    }

    /** A row of signs that is made once and filled anew, so that no call makes objects. */
    private static final class Text {
        private final byte[] signs = new byte[MOST_SIGNS];
        private int length = 0;

        /** 0, which is no sign, where there is none. */
        int at(int place) {
            return place >= 0 && place < length ? signs[place] : 0;
        }

        void append(int sign) {
            if (length < MOST_SIGNS) {
                signs[length] = (byte) sign;
                length++;
            }
        }

        void become(Text other) {
            System.arraycopy(other.signs, 0, signs, 0, other.length);
            length = other.length;
        }

        /** Below 0, 0 or above 0, as this text comes before the other, is it, or comes after. */
        int compareWith(Text other) {
            int shorter = Math.min(length, other.length);
            for (int i = 0; i < shorter; i++) {
                if (signs[i] != other.signs[i]) {
                    return signs[i] - other.signs[i];
                }
            }
            return length - other.length;
        }
    }

    /** Which texts are TYPE SHAPES and METHOD SHAPES. */
    private static final class Shapes {
        private static final int NO_END = -1;
        private static final int MOST_BRACKETS = 3;

        static boolean isType(Text text) {
            return endOfType(text, 0) == text.length;
        }

        static boolean isMethod(Text text) {
            if (text.at(0) != '(') {
                return false;
            }
            int close = endOfTypes(text, 1);
            if (close == NO_END || text.at(close) != ')') {
                return false;
            }
            int answer = close + 1;
            int end = text.at(answer) == 'V' ? answer + 1 : endOfType(text, answer);
            return end == text.length;
        }

        private static int endOfTypes(Text text, int from) {
            int at = from;
            // Each type has a sign at least, so there are no more types than signs.
            for (int n = 0; n < MOST_SIGNS; n++) {
                if (at == NO_END || text.at(at) == ')') {
                    return at;
                }
                at = endOfType(text, at);
            }
            return at;
        }

        /** The place behind the type that begins at a place, NO_END if none does. */
        private static int endOfType(Text text, int from) {
            int at = from;
            while (at < from + MOST_BRACKETS && text.at(at) == '[') {
                at++;
            }
            if (text.at(at) == 'L') {
                return endOfName(text, at + 1);
            }
            return isSimple(text.at(at)) ? at + 1 : NO_END;
        }

        private static int endOfName(Text text, int from) {
            int at = from;
            while (at < text.length && mayStandInName(text.at(at))) {
                at++;
            }
            return at > from && text.at(at) == ';' ? at + 1 : NO_END;
        }

        private static boolean isSimple(int sign) {
            switch (sign) {
                case 'B':
                case 'C':
                case 'D':
                case 'F':
                case 'I':
                case 'J':
                case 'S':
                case 'Z':
                    return true;
                default:
                    return false;
            }
        }

        private static boolean mayStandInName(int sign) {
            return sign != ';' && sign != '[' && sign != '(' && sign != ')' && sign != '.';
        }
    }

    /** A MEMBER or an interface name. */
    private static final class Entry {
        private int kind = FIELD;
        private int modifiers = 0;
        private final Text name = new Text();
        private final Text shape = new Text();

        void become(int newKind, int newModifiers, Text newName, Text newShape) {
            kind = newKind;
            modifiers = newModifiers;
            name.become(newName);
            shape.become(newShape);
        }

        /**
         * The canonical order of entries of one kind; 0 tells that both can't be in one class,
         * as what a kind is ordered by is just what must differ.
         */
        int compareWith(int otherKind, Text otherName, Text otherShape) {
            if (kind != otherKind) {
                return kind - otherKind;
            }
            switch (kind) {
                case CONSTRUCTOR:
                    return shape.compareWith(otherShape);
                case METHOD:
                    int order = name.compareWith(otherName);
                    return order != 0 ? order : shape.compareWith(otherShape);
                case START:
                    return 0;
                default:
                    return name.compareWith(otherName);
            }
        }

        boolean has(int modifier) {
            return (modifiers & modifier) != 0;
        }

        boolean isHashed() {
            if (kind == FIELD) {
                return !(has(PRIVATE) && (has(STATIC) || has(TRANSIENT)));
            }
            return kind == FACE || kind == START || !has(PRIVATE);
        }
    }

    /** Entries in canonical order; those from used on are spare and filled when they are needed. */
    private static final class Row {
        private final Entry[] entries;
        private int used = 0;

        Row(int most) {
            entries = new Entry[most];
            for (int i = 0; i < most; i++) {
                entries[i] = new Entry();
            }
        }

        int enter(int kind, int modifiers, Text name, Text shape) {
            int place = placeOf(kind, name, shape);
            if (isAt(place, kind, name, shape)) {
                return TWICE;
            }
            if (used >= entries.length) {
                return FULL;
            }
            Entry spare = entries[used];
            for (int i = used; i > place; i--) {
                entries[i] = entries[i - 1];
            }
            spare.become(kind, modifiers, name, shape);
            entries[place] = spare;
            used++;
            return used;
        }

        int takeOut(int kind, Text name, Text shape) {
            int place = placeOf(kind, name, shape);
            if (!isAt(place, kind, name, shape)) {
                return BAD;
            }
            Entry spare = entries[place];
            used--;
            for (int i = place; i < used; i++) {
                entries[i] = entries[i + 1];
            }
            // Kept behind the others, or one entry would stand in two places.
            entries[used] = spare;
            return used;
        }

        int tally(int kind) {
            int found = 0;
            for (int i = 0; i < used; i++) {
                if (entries[i].kind == kind) {
                    found++;
                }
            }
            return found;
        }

        /** Where an entry stands, or would have to stand. */
        private int placeOf(int kind, Text name, Text shape) {
            int place = 0;
            while (place < used && entries[place].compareWith(kind, name, shape) < 0) {
                place++;
            }
            return place;
        }

        private boolean isAt(int place, int kind, Text name, Text shape) {
            return place < used && entries[place].compareWith(kind, name, shape) == 0;
        }
    }

    /** What is declared of a class. */
    private static final class Declaration {
        private boolean isThere = false;
        private final Text name = new Text();
        private int modifiers = 0;
        private final Row faces = new Row(MOST_FACES);
        private final Row members = new Row(MOST_MEMBERS);
        private boolean hasOwnId = false;
        private long ownId = 0;

        void begin(Text newName, int newModifiers) {
            isThere = true;
            name.become(newName);
            modifiers = newModifiers;
            faces.used = 0;
            members.used = 0;
            hasOwnId = false;
        }

        int hashedModifiers() {
            int hashed = modifiers & CLASS_MODIFIERS;
            if ((modifiers & INTERFACE) == 0) {
                return hashed;
            }
            return members.tally(METHOD) > 0 ? hashed | ABSTRACT : hashed & ~ABSTRACT;
        }
    }

    /** The BYTES of the class that was written last. */
    private static final class Layout {
        private final byte[] bytes = new byte[MOST_BYTES];
        private int length = 0;
        private final int[] begins = new int[PARTS];

        void write(Declaration declaration) {
            length = 0;
            begins[0] = length;
            putText(declaration.name);
            putNumber(declaration.hashedModifiers());
            begins[1] = length;
            putAll(declaration.faces, FACE);
            begins[2] = length;
            putAll(declaration.members, FIELD);
            begins[3] = length;
            putAll(declaration.members, START);
            begins[4] = length;
            putAll(declaration.members, CONSTRUCTOR);
            begins[5] = length;
            putAll(declaration.members, METHOD);
        }

        int at(int place) {
            return place >= 0 && place < length ? bytes[place] & 0xFF : 0;
        }

        private void putAll(Row row, int kind) {
            for (int i = 0; i < row.used; i++) {
                Entry entry = row.entries[i];
                if (entry.kind == kind && entry.isHashed()) {
                    putEntry(entry);
                }
            }
        }

        private void putEntry(Entry entry) {
            switch (entry.kind) {
                case FIELD:
                    putText(entry.name);
                    putNumber(entry.modifiers & FIELD_MODIFIERS);
                    putText(entry.shape);
                    break;
                case START:
                    putConstant("<clinit>");
                    putNumber(STATIC);
                    putConstant("()V");
                    break;
                case CONSTRUCTOR:
                    putConstant("<init>");
                    putNumber(entry.modifiers & METHOD_MODIFIERS);
                    putDotted(entry.shape);
                    break;
                case METHOD:
                    putText(entry.name);
                    putNumber(entry.modifiers & METHOD_MODIFIERS);
                    putDotted(entry.shape);
                    break;
                default:
                    putText(entry.name);
                    break;
            }
        }

        private void putText(Text text) {
            putLength(text.length);
            for (int i = 0; i < text.length; i++) {
                put(text.at(i));
            }
        }

        private void putDotted(Text text) {
            putLength(text.length);
            for (int i = 0; i < text.length; i++) {
                put(text.at(i) == '/' ? '.' : text.at(i));
            }
        }

        private void putConstant(String text) {
            putLength(text.length());
            for (int i = 0; i < text.length(); i++) {
                put(text.charAt(i));
            }
        }

        private void putLength(int signs) {
            put(signs >>> 8);
            put(signs);
        }

        private void putNumber(int number) {
            put(number >>> 24);
            put(number >>> 16);
            put(number >>> 8);
            put(number);
        }

        private void put(int value) {
            if (length < MOST_BYTES) {
                bytes[length] = (byte) value;
                length++;
            }
        }
    }

    /** The HASH of the BYTES that were taken last. */
    private static final class Digest {
        private final int[] numbers = new int[HASH_NUMBERS];
        private final int[] words = new int[ROUNDS];

        void take(Layout layout) {
            System.arraycopy(HASH_BEGIN, 0, numbers, 0, HASH_NUMBERS);
            // Behind the bytes there must be room for the byte 80 and for their number.
            int blocks = (layout.length + 1 + 8 + BLOCK_BYTES - 1) / BLOCK_BYTES;
            for (int block = 0; block < blocks; block++) {
                fillWords(layout, block * BLOCK_BYTES, blocks * BLOCK_BYTES);
                mixWords();
            }
        }

        long firstEightReversed() {
            long low = reversed(numbers[0]) & 0xFFFFFFFFL;
            long high = reversed(numbers[1]);
            return (high << 32) | low;
        }

        private void fillWords(Layout layout, int from, int paddedLength) {
            for (int t = 0; t < 16; t++) {
                int word = 0;
                for (int i = 0; i < 4; i++) {
                    word = (word << 8) | paddedAt(layout, from + 4 * t + i, paddedLength);
                }
                words[t] = word;
            }
            for (int t = 16; t < ROUNDS; t++) {
                words[t] = turned(words[t - 3] ^ words[t - 8] ^ words[t - 14] ^ words[t - 16], 1);
            }
        }

        private static int paddedAt(Layout layout, int place, int paddedLength) {
            if (place < layout.length) {
                return layout.at(place);
            }
            if (place == layout.length) {
                return 0x80;
            }
            int behind = paddedLength - 1 - place;
            // The number of bits is an int, so the upper four of its eight bytes are 0.
            return behind < 4 ? ((8 * layout.length) >>> (8 * behind)) & 0xFF : 0;
        }

        private void mixWords() {
            int a = numbers[0];
            int b = numbers[1];
            int c = numbers[2];
            int d = numbers[3];
            int e = numbers[4];
            for (int t = 0; t < ROUNDS; t++) {
                int next = turned(a, 5) + chosen(t, b, c, d) + e + words[t] + ROUND_NUMBERS[t / 20];
                e = d;
                d = c;
                c = turned(b, 30);
                b = a;
                a = next;
            }
            numbers[0] += a;
            numbers[1] += b;
            numbers[2] += c;
            numbers[3] += d;
            numbers[4] += e;
        }

        private static int chosen(int t, int b, int c, int d) {
            if (t < 20) {
                return (b & c) | (~b & d);
            }
            if (t >= 40 && t < 60) {
                return (b & c) | (b & d) | (c & d);
            }
            return b ^ c ^ d;
        }

        private static int turned(int number, int bits) {
            return (number << bits) | (number >>> (32 - bits));
        }

        private static int reversed(int number) {
            return (number << 24) | ((number & 0xFF00) << 8) | ((number >>> 8) & 0xFF00)
                    | (number >>> 24);
        }
    }
}
