/** Rules on who may depend on whom, over classes that are read from compiled units. README.md says how to use it. */
public final class PackageRules {
    private static final int MAX_CLASSES = 12;
    private static final int MAX_PATTERNS = 6;
    private static final int MAX_RULES = 6;
    private static final int MAX_KNOWN = 8;
    private static final int MAX_TEXT = 10;
    private static final int NONE = -1;
    private static final int NO_ROOM = -1000;

    private static final int GET = 0;
    private static final int SET = 1;
    private static final int CALL = 2;
    private static final int NEW = 3;
    private static final int CAST = 4;
    private static final int TEST = 5;
    private static final int CONST = 6;
    private static final int SUPER = 7;
    private static final int INTERFACE = 8;

    private static final int FORBID = 0;
    private static final int ONLY = 1;
    private static final int GUARD = 2;
    private static final int CYCLES = 3;

    /** A violation is one int, 64 * class + occurrence; no class has an occurrence 63, so that one means a slice. */
    private static final int PER_CLASS = 64;
    private static final int WHOLE_SLICE = 63;

    private final UnitReader reader;
    private final ClassGraph graph;
    private final long[] patterns;
    private final Rule[] rules;
    /** The violations of the rule that is being looked at; one row for all calls, so that no call makes one. */
    private final int[] found;
    private int patternCount;
    private int ruleCount;
    private long typed;

    public PackageRules() {
        reader = new UnitReader();
        graph = new ClassGraph();
        patterns = new long[MAX_PATTERNS];
        rules = new Rule[MAX_RULES];
        for (int r = 0; r < MAX_RULES; r++) {
            rules[r] = new Rule();
        }
        found = new int[MAX_CLASSES * Unit.MAX_OCCURRENCES];
        patternCount = 0;
        ruleCount = 0;
        typed = Texts.EMPTY;
    }

    public boolean put(int word, int n) {
        return reader.append(word, n);
    }

    public int bytes() {
        return reader.size;
    }

    public int load() {
        int fault = reader.readInto(graph.spare);
        if (fault != NONE) {
            return -1 - fault;
        }
        int c = graph.adoptSpare();
        return c == NONE ? NO_ROOM : c;
    }

    public boolean type(char c) {
        int code = Texts.codeOf(c);
        int length = Texts.lengthOf(typed);
        if (code == Texts.NO_CODE || length >= MAX_TEXT) {
            return false;
        }
        typed = Texts.withCode(typed, length, code);
        return true;
    }

    public int pattern() {
        if (typed == Texts.EMPTY || patternCount >= MAX_PATTERNS) {
            return NONE;
        }
        patterns[patternCount] = typed;
        typed = Texts.EMPTY;
        patternCount++;
        return patternCount - 1;
    }

    public int rule(int kind, int p, int q) {
        if (ruleCount >= MAX_RULES || !canBeRule(kind, p, q)) {
            return NONE;
        }
        rules[ruleCount].become(kind, p, q);
        ruleCount++;
        return ruleCount - 1;
    }

    public int violations(int r) {
        return isRule(r) ? findNew(rules[r]) : NONE;
    }

    public int violation(int r, int i) {
        if (!isRule(r)) {
            return NONE;
        }
        int n = findNew(rules[r]);
        return i >= 0 && i < n ? found[i] : NONE;
    }

    public int freeze(int r) {
        if (!isRule(r) || rules[r].sort == CYCLES) {
            return NONE;
        }
        int n = findAll(rules[r]);
        if (n > MAX_KNOWN) {
            return NONE;
        }
        rules[r].forgetKnown();
        for (int i = 0; i < n; i++) {
            int c = found[i] / PER_CLASS;
            rules[r].addKnown(c, graph.units[c], found[i] % PER_CLASS);
        }
        return n;
    }

    public int classes() {
        return graph.count;
    }

    public int name(int c, int j) {
        if (!graph.isClass(c) || j < 0 || j >= Texts.lengthOf(graph.units[c].ownName)) {
            return NONE;
        }
        return Texts.characterOf(Texts.codeAt(graph.units[c].ownName, j));
    }

    public int occurrences(int c) {
        return graph.isClass(c) ? graph.units[c].occurrenceCount : NONE;
    }

    public int kind(int c, int i) {
        return graph.isOccurrence(c, i) ? graph.units[c].kinds[i] : NONE;
    }

    public int line(int c, int i) {
        return graph.isOccurrence(c, i) ? graph.units[c].lines[i] : NONE;
    }

    public int named(int c, int i) {
        return graph.isOccurrence(c, i) ? graph.numberOf(graph.units[c].names[i]) : NONE;
    }

    public int target(int c, int i) {
        return graph.isOccurrence(c, i) ? graph.targetOf(c, i) : NONE;
    }

    public boolean circular(int c) {
        return graph.isClass(c) && graph.isCircular(c);
    }

    public boolean fits(int p, int c) {
        return isPattern(p) && graph.isClass(c) && fitsText(p, graph.units[c].ownName);
    }

    public int slices(int d) {
        return isDepth(d) ? graph.cutSlices(d) : NONE;
    }

    private boolean isPattern(int p) {
        return p >= 0 && p < patternCount;
    }

    private boolean isRule(int r) {
        return r >= 0 && r < ruleCount;
    }

    private static boolean isDepth(int d) {
        return d == 1 || d == 2;
    }

    private boolean canBeRule(int kind, int p, int q) {
        if (kind == CYCLES) {
            return isDepth(p) && q == 0;
        }
        return kind >= FORBID && kind <= GUARD && isPattern(p) && isPattern(q);
    }

    private boolean fitsText(int p, long name) {
        return Texts.matches(patterns[p], name);
    }

    /** Leaves the new violations of the rule in found, and answers how many there are. */
    private int findNew(Rule rule) {
        int n = findAll(rule);
        if (rule.sort == CYCLES) {
            return n;
        }
        rule.forgetUses();
        int kept = 0;
        for (int i = 0; i < n; i++) {
            int c = found[i] / PER_CLASS;
            if (!rule.useKnown(c, graph.units[c], found[i] % PER_CLASS)) {
                found[kept] = found[i];
                kept++;
            }
        }
        return kept;
    }

    /** Leaves all violations of the rule in found, and answers how many there are. */
    private int findAll(Rule rule) {
        if (rule.sort == CYCLES) {
            return findCycles(rule.first);
        }
        int n = 0;
        for (int c = 0; c < graph.count; c++) {
            int last = watches(rule, graph.units[c].ownName) ? graph.units[c].occurrenceCount : 0;
            for (int i = 0; i < last; i++) {
                if (n < found.length && breaks(rule, c, i)) {
                    found[n] = PER_CLASS * c + i;
                    n++;
                }
            }
        }
        return n;
    }

    private int findCycles(int depth) {
        graph.linkSlices(depth);
        int n = 0;
        for (int c = 0; c < graph.count; c++) {
            if (graph.headsCycle(c)) {
                found[n] = PER_CLASS * c + WHOLE_SLICE;
                n++;
            }
        }
        return n;
    }

    /** Whether the rule looks at the occurrences in a class of this name at all. */
    private boolean watches(Rule rule, long name) {
        switch (rule.sort) {
            case FORBID:
                return fitsText(rule.first, name);
            case ONLY:
                return !fitsText(rule.first, name) && !fitsText(rule.second, name);
            default:
                return !fitsText(rule.second, name);
        }
    }

    /** Whether occurrence i of class c, which the rule watches, is a violation of it. */
    private boolean breaks(Rule rule, int c, int i) {
        long named = graph.units[c].names[i];
        switch (rule.sort) {
            case FORBID:
                return named != graph.units[c].ownName && fitsText(rule.second, named);
            case ONLY:
                return fitsText(rule.first, named);
            default:
                int t = graph.targetOf(c, i);
                return t != NONE && t != c && fitsText(rule.first, graph.units[t].ownName);
        }
    }

    /**
     * Texts of at most ten characters, packed into a long, six bits for each character, the first one lowest:
     * texts are equal if the longs are, and keeping or comparing one makes no object.
     */
    private static final class Texts {
        static final long EMPTY = 0;
        static final int NO_CODE = 0;
        static final int POINT = 53;
        private static final int LETTERS = 26;
        private static final int ANY_LETTERS = 54;
        private static final int ANY_CHARACTERS = 55;
        private static final int BITS = 6;

        static int codeOf(int character) {
            if (character >= 'a' && character <= 'z') {
                return character - 'a' + 1;
            }
            if (character >= 'A' && character <= 'Z') {
                return character - 'A' + 1 + LETTERS;
            }
            switch (character) {
                case '.':
                    return POINT;
                case '*':
                    return ANY_LETTERS;
                case '#':
                    return ANY_CHARACTERS;
                default:
                    return NO_CODE;
            }
        }

        /** The character of a letter's or a point's code: names have no others. */
        static int characterOf(int code) {
            if (code == POINT) {
                return '.';
            }
            return code <= LETTERS ? code - 1 + 'a' : code - 1 - LETTERS + 'A';
        }

        /** NO_CODE behind the end; j is below MAX_TEXT, as a shift by 64 or more would begin anew. */
        static int codeAt(long text, int j) {
            return (int) (text >>> (BITS * j)) & ((1 << BITS) - 1);
        }

        static int lengthOf(long text) {
            int length = 0;
            while (length < MAX_TEXT && codeAt(text, length) != NO_CODE) {
                length++;
            }
            return length;
        }

        static long withCode(long text, int length, int code) {
            return text | ((long) code << (BITS * length));
        }

        static boolean isWord(long text) {
            for (int j = 0; j < MAX_TEXT; j++) {
                if (codeAt(text, j) == POINT) {
                    return false;
                }
            }
            return text != EMPTY;
        }

        static boolean isName(long text) {
            int before = POINT;
            int length = lengthOf(text);
            for (int j = 0; j < length; j++) {
                int code = codeAt(text, j);
                if (code == POINT && before == POINT) {
                    return false;
                }
                before = code;
            }
            return before != POINT;
        }

        /** The first d words of a name that has more than d, or EMPTY. */
        static long firstWords(long name, int d) {
            int points = 0;
            for (int j = 0; j < MAX_TEXT; j++) {
                if (codeAt(name, j) == POINT) {
                    points++;
                    if (points == d) {
                        return name & ((1L << (BITS * j)) - 1);
                    }
                }
            }
            return EMPTY;
        }

        /** Follows all ways to fit at once: bit s says that the characters so far can be what stands before place s. */
        static boolean matches(long pattern, long name) {
            int patternEnd = lengthOf(pattern);
            int nameEnd = lengthOf(name);
            int places = passStars(pattern, patternEnd, 1);
            for (int j = 0; j < nameEnd; j++) {
                places = passStars(pattern, patternEnd, step(pattern, patternEnd, places, codeAt(name, j)));
            }
            return (places >> patternEnd & 1) != 0;
        }

        private static int passStars(long pattern, int end, int places) {
            int reached = places;
            for (int s = 0; s < end; s++) {
                if ((reached >> s & 1) != 0 && codeAt(pattern, s) >= ANY_LETTERS) {
                    reached |= 1 << (s + 1);
                }
            }
            return reached;
        }

        private static int step(long pattern, int end, int places, int code) {
            int reached = 0;
            for (int s = 0; s < end; s++) {
                if ((places >> s & 1) != 0) {
                    int wanted = codeAt(pattern, s);
                    if (wanted == ANY_CHARACTERS || wanted == ANY_LETTERS && code != POINT) {
                        reached |= 1 << s;
                    } else if (wanted == code) {
                        reached |= 1 << (s + 1);
                    }
                }
            }
            return reached;
        }
    }

    /** What a unit says of its class. Units are made once and filled again and again. */
    private static final class Unit {
        static final int MAX_INTERFACES = 3;
        static final int MAX_MEMBERS = 4;
        static final int MAX_CODE = 24;
        /** SUPER, the interfaces, and codes that are full of instructions of two bytes, the shortest that name a class. */
        static final int MAX_OCCURRENCES = 1 + MAX_INTERFACES + MAX_MEMBERS * MAX_CODE / 2;

        private long ownName;
        private long superName;
        private int interfaceCount;
        private final long[] interfaceNames;
        private int fieldCount;
        private final long[] fieldWords;
        private int methodCount;
        private final long[] methodWords;
        private int occurrenceCount;
        private final int[] kinds;
        private final int[] lines;
        private final long[] names;
        private final long[] words;

        Unit() {
            interfaceNames = new long[MAX_INTERFACES];
            fieldWords = new long[MAX_MEMBERS];
            methodWords = new long[MAX_MEMBERS];
            kinds = new int[MAX_OCCURRENCES];
            lines = new int[MAX_OCCURRENCES];
            names = new long[MAX_OCCURRENCES];
            words = new long[MAX_OCCURRENCES];
        }

        void clear() {
            ownName = Texts.EMPTY;
            superName = Texts.EMPTY;
            interfaceCount = 0;
            fieldCount = 0;
            methodCount = 0;
            occurrenceCount = 0;
        }

        void addInterface(long name) {
            if (interfaceCount < MAX_INTERFACES) {
                interfaceNames[interfaceCount] = name;
                interfaceCount++;
            }
        }

        void addField(long word) {
            if (fieldCount < MAX_MEMBERS) {
                fieldWords[fieldCount] = word;
                fieldCount++;
            }
        }

        void addMethod(long word) {
            if (methodCount < MAX_MEMBERS) {
                methodWords[methodCount] = word;
                methodCount++;
            }
        }

        /** The word is EMPTY if the occurrence is no access, so that all occurrences are compared alike. */
        void addOccurrence(int kind, int line, long name, long word) {
            if (occurrenceCount < MAX_OCCURRENCES) {
                kinds[occurrenceCount] = kind;
                lines[occurrenceCount] = line;
                names[occurrenceCount] = name;
                words[occurrenceCount] = word;
                occurrenceCount++;
            }
        }

        boolean hasField(long word) {
            for (int i = 0; i < fieldCount; i++) {
                if (fieldWords[i] == word) {
                    return true;
                }
            }
            return false;
        }

        boolean hasMethod(long word) {
            for (int i = 0; i < methodCount; i++) {
                if (methodWords[i] == word) {
                    return true;
                }
            }
            return false;
        }
    }

    /**
     * The buffer, and the strict reading of a unit from it. A method that reads answers false as soon as there is a
     * fault, and leaves its offset in fault.
     */
    private static final class UnitReader {
        private static final int MAX_BYTES = 120;
        private static final int MAX_PUT = 4;
        private static final int MAX_CONSTANTS = 24;
        private static final int BYTE = 255;
        private static final int FIRST_BYTE = 197;

        private static final int NO_CONSTANT = 0;
        private static final int TEXT_TAG = 1;
        private static final int SPAN_TAG = 3;
        private static final int CLASS_TAG = 7;
        private static final int FIELD_TAG = 9;
        private static final int METHOD_TAG = 10;

        private static final int NOP_CODE = 0;
        private static final int PUSH_CODE = 16;
        private static final int CONST_CODE = 18;
        private static final int STEP_CODE = 25;
        private static final int SWITCH_CODE = 170;
        private static final int GET_CODE = 180;
        private static final int SET_CODE = 181;
        private static final int CALL_CODE = 182;
        private static final int NEW_CODE = 187;
        private static final int CAST_CODE = 192;
        private static final int TEST_CODE = 193;
        private static final int WIDE_CODE = 196;
        private static final int SWITCH_STEP = 4;
        private static final int MAX_WAYS = 4;

        private final int[] buffer;
        private int size;
        /** The offset of the next byte, and the one that no byte may be read from: the end of the buffer or the code. */
        private int at;
        private int limit;
        private int value;
        private int fault;
        private Unit unit;
        private int constantCount;
        private final int[] tags;
        private final long[] texts;
        private final int[] offsets;
        private int codeStart;
        private int codeLength;
        private int lineNow;

        UnitReader() {
            buffer = new int[MAX_BYTES];
            tags = new int[MAX_CONSTANTS + 1];
            texts = new long[MAX_CONSTANTS + 1];
            offsets = new int[MAX_CONSTANTS + 1];
        }

        boolean append(int word, int n) {
            if (n < 1 || n > MAX_PUT || size + n > MAX_BYTES) {
                return false;
            }
            for (int i = n - 1; i >= 0; i--) {
                buffer[size] = word >>> (8 * i) & BYTE;
                size++;
            }
            return true;
        }

        /** Empties the buffer; answers the offset of the fault, or NONE. */
        int readInto(Unit into) {
            unit = into;
            unit.clear();
            at = 0;
            limit = size;
            fault = NONE;
            boolean read = take(FIRST_BYTE, FIRST_BYTE) && readConstants() && checkNumbers()
                    && readParents() && readFields() && readMethods();
            if (read && at < size) {
                fault = at;
            }
            size = 0;
            return fault;
        }

        private boolean fail(int offset) {
            fault = offset;
            return false;
        }

        private boolean take(int least, int most) {
            if (at >= limit || buffer[at] < least || buffer[at] > most) {
                fault = at;
                return false;
            }
            value = buffer[at];
            at++;
            return true;
        }

        private int tagOf(int number) {
            return number >= 1 && number <= constantCount ? tags[number] : NO_CONSTANT;
        }

        private boolean takeClass() {
            return take(0, BYTE) && (tagOf(value) == CLASS_TAG || fail(at - 1));
        }

        private boolean takeWord() {
            return take(0, BYTE) && (isWord(value) || fail(at - 1));
        }

        private boolean isWord(int number) {
            return tagOf(number) == TEXT_TAG && Texts.isWord(texts[number]);
        }

        private boolean isName(int number) {
            return tagOf(number) == TEXT_TAG && Texts.isName(texts[number]);
        }

        /** The name that a CLASS, or the word that a FIELD or METHOD, gives as its last number. */
        private long lastText(int number) {
            int behind = tags[number] == CLASS_TAG ? 0 : 1;
            return texts[buffer[offsets[number] + behind]];
        }

        private boolean readConstants() {
            if (!take(0, MAX_CONSTANTS)) {
                return false;
            }
            constantCount = value;
            for (int k = 1; k <= constantCount; k++) {
                if (!readConstant(k)) {
                    return false;
                }
                if (tags[k] == SPAN_TAG) {
                    k++;
                    tags[k] = NO_CONSTANT;
                }
            }
            return true;
        }

        private boolean readConstant(int k) {
            if (!take(0, BYTE)) {
                return false;
            }
            tags[k] = value;
            offsets[k] = at;
            switch (value) {
                case TEXT_TAG:
                    return readText(k);
                case SPAN_TAG:
                    return k == constantCount ? fail(at - 1) : take(0, BYTE) && take(0, BYTE);
                case CLASS_TAG:
                    return take(0, BYTE);
                case FIELD_TAG:
                case METHOD_TAG:
                    return take(0, BYTE) && take(0, BYTE);
                default:
                    return fail(at - 1);
            }
        }

        private boolean readText(int k) {
            if (!take(1, MAX_TEXT)) {
                return false;
            }
            int length = value;
            texts[k] = Texts.EMPTY;
            for (int j = 0; j < length; j++) {
                if (!take(0, BYTE)) {
                    return false;
                }
                int code = Texts.codeOf(value);
                if (code == Texts.NO_CODE || code > Texts.POINT) {
                    return fail(at - 1);
                }
                texts[k] = Texts.withCode(texts[k], j, code);
            }
            return true;
        }

        private boolean checkNumbers() {
            for (int k = 1; k <= constantCount; k++) {
                int offset = offsets[k];
                if (tags[k] == CLASS_TAG && !isName(buffer[offset])) {
                    return fail(offset);
                }
                if (tags[k] == FIELD_TAG || tags[k] == METHOD_TAG) {
                    if (tagOf(buffer[offset]) != CLASS_TAG) {
                        return fail(offset);
                    }
                    if (!isWord(buffer[offset + 1])) {
                        return fail(offset + 1);
                    }
                }
            }
            return true;
        }

        private boolean readParents() {
            if (!takeClass()) {
                return false;
            }
            unit.ownName = lastText(value);
            if (!take(0, BYTE)) {
                return false;
            }
            if (value != 0) {
                if (tagOf(value) != CLASS_TAG) {
                    return fail(at - 1);
                }
                unit.superName = lastText(value);
                unit.addOccurrence(SUPER, 0, unit.superName, Texts.EMPTY);
            }
            return readInterfaces();
        }

        private boolean readInterfaces() {
            if (!take(0, Unit.MAX_INTERFACES)) {
                return false;
            }
            int n = value;
            for (int i = 0; i < n; i++) {
                if (!takeClass()) {
                    return false;
                }
                unit.addInterface(lastText(value));
                unit.addOccurrence(INTERFACE, 0, lastText(value), Texts.EMPTY);
            }
            return true;
        }

        private boolean readFields() {
            if (!take(0, Unit.MAX_MEMBERS)) {
                return false;
            }
            int n = value;
            for (int i = 0; i < n; i++) {
                if (!takeWord()) {
                    return false;
                }
                unit.addField(texts[value]);
            }
            return true;
        }

        private boolean readMethods() {
            if (!take(0, Unit.MAX_MEMBERS)) {
                return false;
            }
            int n = value;
            for (int i = 0; i < n; i++) {
                if (!readMethod()) {
                    return false;
                }
            }
            return true;
        }

        private boolean readMethod() {
            if (!takeWord()) {
                return false;
            }
            unit.addMethod(texts[value]);
            if (!take(0, BYTE)) {
                return false;
            }
            lineNow = value;
            if (!take(0, Unit.MAX_CODE)) {
                return false;
            }
            codeStart = at;
            codeLength = value;
            int end = codeStart + codeLength;
            limit = Math.min(end, size);
            for (int i = 0; i < codeLength && at < end; i++) {
                if (!readInstruction()) {
                    return false;
                }
            }
            limit = size;
            return true;
        }

        private boolean readInstruction() {
            if (!take(0, BYTE)) {
                return false;
            }
            switch (value) {
                case NOP_CODE:
                    return true;
                case PUSH_CODE:
                    return take(0, BYTE);
                case STEP_CODE:
                    return readStep();
                case SWITCH_CODE:
                    return readSwitch();
                case WIDE_CODE:
                    return readWide();
                default:
                    return readUse(kindOf(value));
            }
        }

        private static int kindOf(int instruction) {
            switch (instruction) {
                case GET_CODE:
                    return GET;
                case SET_CODE:
                    return SET;
                case CALL_CODE:
                    return CALL;
                case NEW_CODE:
                    return NEW;
                case CAST_CODE:
                    return CAST;
                case TEST_CODE:
                    return TEST;
                case CONST_CODE:
                    return CONST;
                default:
                    return NONE;
            }
        }

        private boolean readStep() {
            if (!take(0, BYTE)) {
                return false;
            }
            lineNow += value;
            return true;
        }

        private boolean readSwitch() {
            int padding = (SWITCH_STEP - (at - codeStart) % SWITCH_STEP) % SWITCH_STEP;
            for (int i = 0; i < padding; i++) {
                if (!take(0, 0)) {
                    return false;
                }
            }
            if (!take(0, MAX_WAYS)) {
                return false;
            }
            int n = value;
            for (int i = 0; i < n; i++) {
                if (!take(0, codeLength - 1)) {
                    return false;
                }
            }
            return true;
        }

        private boolean readWide() {
            if (!take(0, BYTE)) {
                return false;
            }
            int kind = kindOf(value);
            if (kind < GET || kind > NEW) {
                return fail(at - 1);
            }
            if (!take(0, BYTE)) {
                return false;
            }
            int high = value;
            return take(0, BYTE) && useConstant(kind, high * (BYTE + 1) + value);
        }

        private boolean readUse(int kind) {
            if (kind == NONE) {
                return fail(at - 1);
            }
            return take(0, BYTE) && useConstant(kind, value);
        }

        /** Notes the occurrence; the last byte that was taken is the one at fault if the number is not fit for the kind. */
        private boolean useConstant(int kind, int number) {
            int tag = tagOf(number);
            if (kind == CONST && tag == TEXT_TAG) {
                return true;
            }
            if (tag != tagFor(kind)) {
                return fail(at - 1);
            }
            if (tag == CLASS_TAG) {
                unit.addOccurrence(kind, lineNow, lastText(number), Texts.EMPTY);
            } else {
                unit.addOccurrence(kind, lineNow, lastText(buffer[offsets[number]]), lastText(number));
            }
            return true;
        }

        private static int tagFor(int kind) {
            switch (kind) {
                case GET:
                case SET:
                    return FIELD_TAG;
                case CALL:
                    return METHOD_TAG;
                default:
                    return CLASS_TAG;
            }
        }
    }

    /** The loaded classes, and what follows from how they name one another. Sets of classes are bits of an int. */
    private static final class ClassGraph {
        private final Unit[] units;
        private int count;
        /** The unit that is read next: a faulty one must leave the classes as they are. */
        private Unit spare;
        /** The classes that SUPER and INTERFACES name, NONE for those not loaded; a load may change them for any class. */
        private final int[] supers;
        private final int[] interfaces;
        private final int[] ancestors;
        private final long[] sliceNames;
        /** For each class the least class in its slice, NONE if it is in no slice. */
        private final int[] heads;
        private final int[] ways;
        /** Classes that a search has been through without finding anything: through them again, it would find nothing. */
        private int seen;

        ClassGraph() {
            units = new Unit[MAX_CLASSES];
            for (int c = 0; c < MAX_CLASSES; c++) {
                units[c] = new Unit();
            }
            spare = new Unit();
            supers = new int[MAX_CLASSES];
            interfaces = new int[MAX_CLASSES * Unit.MAX_INTERFACES];
            ancestors = new int[MAX_CLASSES];
            sliceNames = new long[MAX_CLASSES];
            heads = new int[MAX_CLASSES];
            ways = new int[MAX_CLASSES];
        }

        /** Answers the number of the class that the spare unit has become, NONE if there is no room for it. */
        int adoptSpare() {
            int c = numberOf(spare.ownName);
            if (c == NONE) {
                if (count >= MAX_CLASSES) {
                    return NONE;
                }
                c = count;
                count++;
            }
            Unit old = units[c];
            units[c] = spare;
            spare = old;
            linkParents();
            return c;
        }

        boolean isClass(int c) {
            return c >= 0 && c < count;
        }

        boolean isOccurrence(int c, int i) {
            return isClass(c) && i >= 0 && i < units[c].occurrenceCount;
        }

        int numberOf(long name) {
            for (int c = 0; c < count; c++) {
                if (units[c].ownName == name) {
                    return c;
                }
            }
            return NONE;
        }

        boolean isCircular(int c) {
            int line = ancestors[c] | 1 << c;
            for (int a = 0; a < count; a++) {
                if (isIn(line, a) && isIn(ancestors[a], a)) {
                    return true;
                }
            }
            return false;
        }

        private static boolean isIn(int set, int c) {
            return (set >> c & 1) != 0;
        }

        private static int with(int set, int c) {
            return c == NONE ? set : set | 1 << c;
        }

        private void linkParents() {
            for (int c = 0; c < count; c++) {
                supers[c] = numberOf(units[c].superName);
                ancestors[c] = with(0, supers[c]);
                for (int j = 0; j < units[c].interfaceCount; j++) {
                    int i = numberOf(units[c].interfaceNames[j]);
                    interfaces[Unit.MAX_INTERFACES * c + j] = i;
                    ancestors[c] = with(ancestors[c], i);
                }
            }
            follow(ancestors);
        }

        /** Makes rows of what is reached in one step into rows of what is reached in one or more. */
        private void follow(int[] rows) {
            for (int over = 0; over < count; over++) {
                for (int c = 0; c < count; c++) {
                    if (isIn(rows[c], over)) {
                        rows[c] |= rows[over];
                    }
                }
            }
        }

        private int interfaceOf(int c, int j) {
            return interfaces[Unit.MAX_INTERFACES * c + j];
        }

        int targetOf(int c, int i) {
            int kind = units[c].kinds[i];
            int start = numberOf(units[c].names[i]);
            if (kind > CALL || start == NONE || isCircular(start)) {
                return NONE;
            }
            seen = 0;
            long word = units[c].words[i];
            return kind == CALL ? methodFrom(start, word) : fieldFrom(start, word, 0);
        }

        private int fieldFrom(int c, long word, int depth) {
            if (c == NONE || depth > MAX_CLASSES || isIn(seen, c)) {
                return NONE;
            }
            seen = with(seen, c);
            if (units[c].hasField(word)) {
                return c;
            }
            int t = NONE;
            for (int j = 0; j < units[c].interfaceCount && t == NONE; j++) {
                t = fieldFrom(interfaceOf(c, j), word, depth + 1);
            }
            return t != NONE ? t : fieldFrom(supers[c], word, depth + 1);
        }

        private int methodFrom(int start, long word) {
            int c = start;
            for (int i = 0; i < MAX_CLASSES && c != NONE; i++) {
                if (units[c].hasMethod(word)) {
                    return c;
                }
                c = supers[c];
            }
            int t = NONE;
            c = start;
            for (int i = 0; i < MAX_CLASSES && c != NONE && t == NONE; i++) {
                for (int j = 0; j < units[c].interfaceCount && t == NONE; j++) {
                    t = faceFrom(interfaceOf(c, j), word, 0);
                }
                c = supers[c];
            }
            return t;
        }

        private int faceFrom(int c, long word, int depth) {
            if (c == NONE || depth > MAX_CLASSES || isIn(seen, c)) {
                return NONE;
            }
            seen = with(seen, c);
            if (units[c].hasMethod(word)) {
                return c;
            }
            int t = NONE;
            for (int j = 0; j < units[c].interfaceCount && t == NONE; j++) {
                t = faceFrom(interfaceOf(c, j), word, depth + 1);
            }
            return t;
        }

        /** Finds the heads of the slices; answers how many slices there are. */
        int cutSlices(int depth) {
            int n = 0;
            for (int c = 0; c < count; c++) {
                sliceNames[c] = Texts.firstWords(units[c].ownName, depth);
                heads[c] = headOf(c);
                if (heads[c] == c) {
                    n++;
                }
            }
            return n;
        }

        private int headOf(int c) {
            if (sliceNames[c] == Texts.EMPTY) {
                return NONE;
            }
            for (int b = 0; b < c; b++) {
                if (sliceNames[b] == sliceNames[c]) {
                    return b;
                }
            }
            return c;
        }

        /** Finds the ways among the slices, each slice being told by its head. */
        void linkSlices(int depth) {
            cutSlices(depth);
            for (int c = 0; c < count; c++) {
                ways[c] = 0;
            }
            for (int c = 0; c < count; c++) {
                if (heads[c] != NONE) {
                    ways[heads[c]] |= slicesNamedIn(c);
                }
            }
            follow(ways);
        }

        private int slicesNamedIn(int c) {
            int set = 0;
            for (int i = 0; i < units[c].occurrenceCount; i++) {
                int to = numberOf(units[c].names[i]);
                if (to != NONE && heads[to] != heads[c]) {
                    set = with(set, heads[to]);
                }
            }
            return set;
        }

        /** Whether c is the head of a slice from which one can come back to it; asked behind linkSlices. */
        boolean headsCycle(int c) {
            return heads[c] == c && isIn(ways[c], c);
        }
    }

    /** A rule, and its list of known violations. */
    private static final class Rule {
        private int sort;
        private int first;
        private int second;
        private int knownCount;
        private final int[] knownClasses;
        private final int[] knownKinds;
        private final long[] knownNames;
        private final long[] knownWords;
        private final boolean[] used;

        Rule() {
            knownClasses = new int[MAX_KNOWN];
            knownKinds = new int[MAX_KNOWN];
            knownNames = new long[MAX_KNOWN];
            knownWords = new long[MAX_KNOWN];
            used = new boolean[MAX_KNOWN];
        }

        void become(int newSort, int p, int q) {
            sort = newSort;
            first = p;
            second = q;
        }

        void forgetKnown() {
            knownCount = 0;
        }

        void forgetUses() {
            for (int k = 0; k < knownCount; k++) {
                used[k] = false;
            }
        }

        void addKnown(int c, Unit unit, int i) {
            if (knownCount < MAX_KNOWN) {
                knownClasses[knownCount] = c;
                knownKinds[knownCount] = unit.kinds[i];
                knownNames[knownCount] = unit.names[i];
                knownWords[knownCount] = unit.words[i];
                knownCount++;
            }
        }

        /** Uses up a known violation that is equal to occurrence i of class c; false if there is none left. */
        boolean useKnown(int c, Unit unit, int i) {
            for (int k = 0; k < knownCount; k++) {
                if (!used[k] && knownClasses[k] == c && knownKinds[k] == unit.kinds[i]
                        && knownNames[k] == unit.names[i] && knownWords[k] == unit.words[i]) {
                    used[k] = true;
                    return true;
                }
            }
            return false;
        }
    }
}
