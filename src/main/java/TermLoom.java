import java.util.Arrays;

/**
 * Types and terms of higher-order logic: they are made, taken apart, put into each other, given
 * other types, and matched; what is alike but for the names of bound variables is the same.
 */
public final class TermLoom {
    private static final int NONE = -1;

    private static final int FUNCTIONS = 2;
    private static final int MOST_CONSTRUCTORS = 40;
    private static final int MOST_CONSTANTS = 200;
    private static final int MOST_TAKEN = 2;
    private static final int NUMBERS = 1000;

    private static final int MOST_TYPE_SYMBOLS = 200;
    private static final int MOST_TYPE_HEIGHT = 24;
    private static final int MOST_TYPE_SYMBOLS_TOGETHER = 6000;
    private static final int MOST_TYPES = 8000;
    private static final int BUCKETS = 4096;

    private static final int MOST_SYMBOLS = 4000;
    private static final int MOST_HEIGHT = 120;
    private static final int MOST_SYMBOLS_TOGETHER = 30000;
    // A term has one leaf more than applications, so no more of its symbols can be leaves.
    private static final int MOST_LEAVES = 2000;

    // A call makes one handle at most, and what an object answers after so many calls is free.
    private static final int MOST_HANDLES = 512;

    private static final int APPLICATION = -1;
    private static final int ABSTRACTION = -2;
    private static final int BOUND = 0;
    private static final int FREE = 1;
    private static final int CONSTANT = 2;

    private final TypeTable types;
    private final TermStore terms;
    private final Bindings bindings;
    private final int[] takes;
    private final int[] declared;
    private int constructors;
    private int constants;

    public TermLoom() {
        types = new TypeTable();
        terms = new TermStore();
        bindings = new Bindings();
        takes = new int[MOST_CONSTRUCTORS];
        declared = new int[MOST_CONSTANTS];
        takes[FUNCTIONS] = MOST_TAKEN;
        constructors = FUNCTIONS + 1;
        constants = 0;
    }

    public int constructor(int takes) throws IllegalArgumentException, IllegalStateException {
        if (takes < 0 || takes > MOST_TAKEN) {
            throw new IllegalArgumentException("a constructor takes 0 to 2 types");
        }
        if (constructors < 0 || constructors >= MOST_CONSTRUCTORS) {
            throw new IllegalStateException("there are 40 constructors");
        }
        this.takes[constructors] = takes;
        constructors++;
        return constructors - 1;
    }

    public int typeVariable(int n) throws IllegalArgumentException, IllegalStateException {
        requireNumber(n);
        int mark = types.count();
        return settled(types.keep(types.made(headOfVariable(n), NONE, NONE)), mark);
    }

    public int type(int constructor, int a, int b)
            throws IllegalArgumentException, IndexOutOfBoundsException, IllegalStateException {
        if (constructor < 0 || constructor >= constructors) {
            throw new IllegalArgumentException("no such constructor");
        }
        int taken = read(takes, constructor);
        int first = taken >= 1 ? typeBehind(a) : NONE;
        int second = taken >= 2 ? typeBehind(b) : NONE;
        int mark = types.count();
        return settled(types.keep(types.made(constructor, first, second)), mark);
    }

    public int typeSymbol(int type, int i) throws IndexOutOfBoundsException {
        int whole = typeBehind(type);
        if (i < 0 || i >= types.symbols(whole)) {
            throw new IndexOutOfBoundsException("no such symbol of the type");
        }
        return types.headAt(whole, i);
    }

    public int declare(int type) throws IndexOutOfBoundsException, IllegalStateException {
        int own = typeBehind(type);
        if (constants < 0 || constants >= MOST_CONSTANTS) {
            throw new IllegalStateException("there are 200 constants");
        }
        declared[constants] = own;
        constants++;
        return constants - 1;
    }

    public int free(int n, int type)
            throws IndexOutOfBoundsException, IllegalArgumentException, IllegalStateException {
        int own = typeBehind(type);
        requireNumber(n);
        return leaf(codeOf(FREE, n), own);
    }

    public int constant(int c, int type)
            throws IndexOutOfBoundsException, IllegalArgumentException, IllegalStateException {
        int own = typeBehind(type);
        if (c < 0 || c >= constants) {
            throw new IllegalArgumentException("no such constant");
        }
        types.beginImages();
        if (!types.fits(read(declared, c), own)) {
            throw new IllegalArgumentException("the constant's own type does not become that one");
        }
        return leaf(codeOf(CONSTANT, c), own);
    }

    public int apply(int f, int x)
            throws IndexOutOfBoundsException, IllegalArgumentException, IllegalStateException {
        requireTerm(f);
        requireTerm(x);
        int functions = terms.rootType(f);
        if (types.head(functions) != FUNCTIONS || types.first(functions) != terms.rootType(x)) {
            throw new IllegalArgumentException("not of functions from that type");
        }
        terms.begin();
        terms.add(APPLICATION, types.second(functions));
        terms.copy(terms.start(f), terms.end(f));
        terms.copy(terms.start(x), terms.end(x));
        return settled(terms.keep(), types.count());
    }

    public int abstraction(int v, int body)
            throws IndexOutOfBoundsException, IllegalArgumentException, IllegalStateException {
        requireTerm(v);
        requireTerm(body);
        requireFree(v);
        int mark = types.count();
        int functions = types.made(FUNCTIONS, terms.rootType(v), terms.rootType(body));
        terms.begin();
        terms.add(ABSTRACTION, functions);
        terms.addBinding(v, body);
        return settled(functions == NONE ? NONE : terms.keep(), mark);
    }

    public int part(int t, int which)
            throws IndexOutOfBoundsException, IllegalArgumentException, IllegalStateException {
        requireTerm(t);
        if (terms.root(t) != APPLICATION) {
            throw new IllegalArgumentException("no application");
        }
        if (which != 0 && which != 1) {
            throw new IllegalArgumentException("an application has the parts 0 and 1");
        }
        int from = terms.start(t) + 1;
        int between = terms.endOfClosed(from);
        terms.begin();
        terms.copy(which == 0 ? from : between, which == 0 ? between : terms.end(t));
        return settled(terms.keep(), types.count());
    }

    public int open(int t, int s)
            throws IndexOutOfBoundsException, IllegalArgumentException, IllegalStateException {
        requireTerm(t);
        requireTerm(s);
        if (terms.root(t) != ABSTRACTION) {
            throw new IllegalArgumentException("no abstraction");
        }
        if (types.first(terms.rootType(t)) != terms.rootType(s)) {
            throw new IllegalArgumentException("not of the bound variable's type");
        }
        terms.begin();
        terms.addOpened(t, s);
        return settled(terms.keep(), types.count());
    }

    public int put(int t, int v, int s)
            throws IndexOutOfBoundsException, IllegalArgumentException, IllegalStateException {
        requireTerm(t);
        requireTerm(v);
        requireTerm(s);
        requireFree(v);
        if (terms.rootType(v) != terms.rootType(s)) {
            throw new IllegalArgumentException("not of the variable's type");
        }
        terms.begin();
        terms.addReplaced(t, v, s);
        return settled(terms.keep(), types.count());
    }

    public int retype(int t, int n, int type)
            throws IndexOutOfBoundsException, IllegalArgumentException, IllegalStateException {
        requireTerm(t);
        int becomes = typeBehind(type);
        requireNumber(n);
        int mark = types.count();
        types.beginImages();
        types.setImage(types.find(headOfVariable(n), NONE, NONE), becomes);
        terms.begin();
        boolean whole = terms.addRetyped(t, types);
        return settled(whole ? terms.keep() : NONE, mark);
    }

    public int typeOf(int t) throws IndexOutOfBoundsException, IllegalStateException {
        requireTerm(t);
        return settled(types.keep(terms.rootType(t)), types.count());
    }

    public int symbol(int t, int i) throws IndexOutOfBoundsException {
        requireTerm(t);
        if (i < 0 || i >= terms.length(t)) {
            throw new IndexOutOfBoundsException("no such symbol of the term");
        }
        return terms.code(terms.start(t) + i);
    }

    public int measure(int t, int what) throws IndexOutOfBoundsException, IllegalArgumentException {
        requireTerm(t);
        if (what != 0 && what != 1) {
            throw new IllegalArgumentException("what is 0 or 1");
        }
        return what == 0 ? terms.length(t) : terms.height(t);
    }

    public boolean same(int t, int u) throws IndexOutOfBoundsException {
        requireTerm(t);
        requireTerm(u);
        return terms.alike(terms.start(t), terms.end(t), terms.start(u), terms.end(u));
    }

    public boolean sameType(int a, int b) throws IndexOutOfBoundsException {
        return typeBehind(a) == typeBehind(b);
    }

    public boolean occurs(int v, int t) throws IndexOutOfBoundsException, IllegalArgumentException {
        requireTerm(v);
        requireTerm(t);
        requireFree(v);
        return terms.holds(t, v);
    }

    public int match(int p, int t) throws IndexOutOfBoundsException {
        requireTerm(p);
        requireTerm(t);
        bindings.forget();
        types.beginImages();
        if (!wholeFits(p, t)) {
            bindings.forget();
            return NONE;
        }
        return bindings.count();
    }

    public int matched(int i) throws IndexOutOfBoundsException, IllegalStateException {
        if (i < 0 || i >= bindings.count()) {
            throw new IndexOutOfBoundsException("the latest match made no such variable something");
        }
        terms.begin();
        terms.copy(bindings.from(i), bindings.end(i));
        return settled(terms.keep(), types.count());
    }

    private int leaf(int code, int type) {
        terms.begin();
        terms.add(code, type);
        return settled(terms.keep(), types.count());
    }

    private boolean wholeFits(int p, int t) {
        int there = terms.start(t);
        for (int at = terms.start(p); at < terms.end(p); at++) {
            there = behindFitting(at, there);
            if (there == NONE) {
                return false;
            }
        }
        return true;
    }

    /** Behind what the pattern's symbol fits in the term; NONE if it does not fit. */
    private int behindFitting(int at, int there) {
        int code = terms.code(at);
        if (isOf(FREE, code)) {
            return behindBinding(at, there);
        }
        if (code != terms.code(there)) {
            return NONE;
        }
        int pattern = terms.symbolType(at);
        int type = terms.symbolType(there);
        boolean fits = true;
        if (code == ABSTRACTION) {
            fits = types.fits(types.first(pattern), types.first(type));
        } else if (isOf(CONSTANT, code)) {
            fits = types.fits(pattern, type);
        }
        return fits ? there + 1 : NONE;
    }

    /** The same for a free variable, which becomes the term's whole part there. */
    private int behindBinding(int at, int there) {
        int end = terms.endOfClosed(there);
        if (end == NONE) {
            return NONE;
        }
        int code = terms.code(at);
        int pattern = terms.symbolType(at);
        int known = bindings.find(code, pattern);
        if (known != NONE) {
            boolean again = terms.alike(bindings.from(known), bindings.end(known), there, end);
            return again ? end : NONE;
        }
        if (!types.fits(pattern, terms.symbolType(there))) {
            return NONE;
        }
        bindings.add(code, pattern, there, end);
        return end;
    }

    /** A refused call leaves no type behind: only types that are in use count as being there. */
    private int settled(int handle, int mark) {
        if (handle == NONE) {
            types.forgetFrom(mark);
            throw new IllegalStateException("too many symbols, too high, or too many together");
        }
        return handle;
    }

    private int typeBehind(int handle) {
        int type = types.behind(handle);
        if (type == NONE) {
            throw new IndexOutOfBoundsException("no such type");
        }
        return type;
    }

    private void requireTerm(int handle) {
        if (!terms.has(handle)) {
            throw new IndexOutOfBoundsException("no such term");
        }
    }

    private void requireFree(int v) {
        if (!isOf(FREE, terms.root(v))) {
            throw new IllegalArgumentException("no free variable");
        }
    }

    private static void requireNumber(int n) {
        if (n < 0 || n >= NUMBERS) {
            throw new IllegalArgumentException("a variable's number is 0 to 999");
        }
    }

    private static int headOfVariable(int n) {
        return -1 - n;
    }

    private static int codeOf(int kind, int number) {
        return 4 * number + kind;
    }

    private static int numberOf(int code) {
        return code >> 2;
    }

    private static boolean isOf(int kind, int code) {
        return code >= 0 && (code & 3) == kind;
    }

    private static int read(int[] row, int i) {
        return i >= 0 && i < row.length ? row[i] : NONE;
    }

    /**
     * All different types, each kept once, so that two types are the same if their places here are.
     * What a type takes stands at lower places than itself.
     */
    private static final class TypeTable {
        private final int[] heads = new int[MOST_TYPES];
        private final int[] firsts = new int[MOST_TYPES];
        private final int[] seconds = new int[MOST_TYPES];
        private final int[] symbols = new int[MOST_TYPES];
        private final int[] heights = new int[MOST_TYPES];
        private final int[] older = new int[MOST_TYPES];
        private final int[] buckets = new int[BUCKETS];
        private final int[] images = new int[MOST_TYPES];
        private final int[] stamps = new int[MOST_TYPES];
        private final int[] handles = new int[MOST_HANDLES];
        private int count;
        private int stamp;
        private int handleCount;
        private int symbolsTogether;

        TypeTable() {
            Arrays.fill(buckets, NONE);
        }

        int count() {
            return count;
        }

        int head(int type) {
            return read(heads, type);
        }

        int first(int type) {
            return read(firsts, type);
        }

        int second(int type) {
            return read(seconds, type);
        }

        int symbols(int type) {
            return type == NONE ? 0 : read(symbols, type);
        }

        private int height(int type) {
            return type == NONE ? 0 : read(heights, type);
        }

        int behind(int handle) {
            return handle >= 0 && handle < handleCount ? read(handles, handle) : NONE;
        }

        /** A new handle of a type; NONE if there is no type, or no room. */
        int keep(int type) {
            if (type == NONE || handleCount < 0 || handleCount >= MOST_HANDLES) {
                return NONE;
            }
            if (symbolsTogether + symbols(type) > MOST_TYPE_SYMBOLS_TOGETHER) {
                return NONE;
            }
            handles[handleCount] = type;
            handleCount++;
            symbolsTogether += symbols(type);
            return handleCount - 1;
        }

        int headAt(int whole, int i) {
            int type = whole;
            int left = i;
            for (int level = 0; level < MOST_TYPE_HEIGHT && left > 0; level++) {
                int inFirst = symbols(first(type));
                boolean goFirst = left <= inFirst;
                left = goFirst ? left - 1 : left - 1 - inFirst;
                type = goFirst ? first(type) : second(type);
            }
            return head(type);
        }

        int find(int head, int first, int second) {
            int type = read(buckets, bucketOf(head, first, second));
            for (int left = count; left > 0 && type != NONE; left--) {
                if (read(heads, type) == head
                        && read(firsts, type) == first
                        && read(seconds, type) == second) {
                    return type;
                }
                type = read(older, type);
            }
            return NONE;
        }

        /** The type of these parts (NONE: it takes no such part); NONE if it may not be. */
        int made(int head, int first, int second) {
            int size = 1 + symbols(first) + symbols(second);
            int height = 1 + Math.max(height(first), height(second));
            if (size > MOST_TYPE_SYMBOLS || height > MOST_TYPE_HEIGHT) {
                return NONE;
            }
            int known = find(head, first, second);
            if (known != NONE || count < 0 || count >= MOST_TYPES) {
                return known;
            }
            heads[count] = head;
            firsts[count] = first;
            seconds[count] = second;
            symbols[count] = size;
            heights[count] = height;
            int bucket = bucketOf(head, first, second);
            older[count] = buckets[bucket];
            buckets[bucket] = count;
            count++;
            return count - 1;
        }

        /** The newest type is the first one in its bucket, so it can be taken out there. */
        void forgetFrom(int mark) {
            int newest = Math.min(count, MOST_TYPES) - 1;
            for (int type = newest; type >= mark && type >= 0; type--) {
                buckets[bucketOf(heads[type], firsts[type], seconds[type])] = older[type];
                count = type;
            }
        }

        private static int bucketOf(int head, int first, int second) {
            int mixed = (head * 31 + first) * 8191 + second;
            return (mixed ^ (mixed >>> 12)) & (BUCKETS - 1);
        }

        /** No type has an image yet. */
        void beginImages() {
            stamp++;
        }

        void setImage(int type, int image) {
            if (type >= 0 && type < MOST_TYPES) {
                images[type] = image;
                stamps[type] = stamp;
            }
        }

        private boolean hasImage(int type) {
            return read(stamps, type) == stamp;
        }

        /** Whether a type fits another one, beside all that fitted since beginImages(). */
        boolean fits(int pattern, int type) {
            return fitsWithin(pattern, type, MOST_TYPE_HEIGHT);
        }

        /** What fitted once has all its variables set, so it fits nothing but its image again. */
        private boolean fitsWithin(int pattern, int type, int levels) {
            if (pattern == NONE || type == NONE) {
                return pattern == type;
            }
            if (levels <= 0) {
                return false;
            }
            if (hasImage(pattern)) {
                return read(images, pattern) == type;
            }
            boolean fits = head(pattern) < 0
                    || head(pattern) == head(type)
                            && fitsWithin(first(pattern), first(type), levels - 1)
                            && fitsWithin(second(pattern), second(type), levels - 1);
            if (fits) {
                setImage(pattern, type);
            }
            return fits;
        }

        /** What a type becomes when the images are put in for its variables; NONE if too large. */
        int image(int type) {
            return imageWithin(type, MOST_TYPE_HEIGHT);
        }

        private int imageWithin(int type, int levels) {
            if (type == NONE || levels <= 0) {
                return NONE;
            }
            if (!hasImage(type)) {
                setImage(type, first(type) == NONE ? type : rebuilt(type, levels - 1));
            }
            return read(images, type);
        }

        private int rebuilt(int type, int levels) {
            int first = imageWithin(first(type), levels);
            int second = imageWithin(second(type), levels);
            boolean secondFails = second == NONE && second(type) != NONE;
            return first == NONE || secondFails ? NONE : made(head(type), first, second);
        }
    }

    /** Where a reader of symbols in prefix order stands: how deep, and within how many binders. */
    private static final class Walk {
        private final int[] depths = new int[MOST_HEIGHT + 1];
        private final int[] binders = new int[MOST_HEIGHT + 1];
        private int waiting;
        private int depth;
        private int around;
        private boolean over;

        void begin() {
            waiting = 0;
            depth = 1;
            around = 0;
            over = false;
        }

        int depth() {
            return depth;
        }

        int around() {
            return around;
        }

        boolean over() {
            return over;
        }

        void pass(int code) {
            if (code == APPLICATION) {
                depth++;
                putOff();
            } else if (code == ABSTRACTION) {
                depth++;
                around++;
            } else {
                takeUp();
            }
        }

        private void putOff() {
            if (waiting >= 0 && waiting < depths.length) {
                depths[waiting] = depth;
                binders[waiting] = around;
                waiting++;
            }
        }

        private void takeUp() {
            if (waiting <= 0) {
                over = true;
                return;
            }
            waiting--;
            depth = read(depths, waiting);
            around = read(binders, waiting);
        }
    }

    /**
     * All terms that have handles, one behind the other, each as its symbols in prefix order with
     * their types. A new term is written behind them, and is there only once it is kept.
     */
    private static final class TermStore {
        private final int[] codes = new int[MOST_SYMBOLS_TOGETHER];
        private final int[] symbolTypes = new int[MOST_SYMBOLS_TOGETHER];
        private final int[] starts = new int[MOST_HANDLES + 1];
        private final int[] heights = new int[MOST_HANDLES];
        private final Walk walk = new Walk();
        private int count;
        private int tail;
        private boolean failed;

        boolean has(int t) {
            return t >= 0 && t < count;
        }

        int start(int t) {
            return read(starts, t);
        }

        int end(int t) {
            return read(starts, t + 1);
        }

        int length(int t) {
            return end(t) - start(t);
        }

        int height(int t) {
            return read(heights, t);
        }

        int code(int at) {
            return read(codes, at);
        }

        int symbolType(int at) {
            return read(symbolTypes, at);
        }

        int root(int t) {
            return code(start(t));
        }

        int rootType(int t) {
            return symbolType(start(t));
        }

        void begin() {
            tail = start(count);
            failed = false;
        }

        void add(int code, int type) {
            if (failed || !hasRoom(1)) {
                failed = true;
                return;
            }
            codes[tail] = code;
            symbolTypes[tail] = type;
            tail++;
        }

        void copy(int from, int end) {
            int length = end - from;
            if (failed || from < 0 || length < 0 || end > tail || !hasRoom(length)) {
                failed = true;
                return;
            }
            System.arraycopy(codes, from, codes, tail, length);
            System.arraycopy(symbolTypes, from, symbolTypes, tail, length);
            tail += length;
        }

        private boolean hasRoom(int more) {
            return tail >= 0
                    && tail + more <= MOST_SYMBOLS_TOGETHER
                    && tail + more - start(count) <= MOST_SYMBOLS;
        }

        /** The handle of what was added since begin(); NONE if it may not be. */
        int keep() {
            if (failed || count < 0 || count >= MOST_HANDLES) {
                return NONE;
            }
            int height = heightOf(start(count), tail);
            if (height > MOST_HEIGHT) {
                return NONE;
            }
            heights[count] = height;
            count++;
            starts[count] = tail;
            return count - 1;
        }

        private int heightOf(int from, int end) {
            int most = 0;
            walk.begin();
            for (int at = from; at < end && most <= MOST_HEIGHT; at++) {
                most = Math.max(most, walk.depth());
                walk.pass(code(at));
            }
            return most;
        }

        private boolean isVariable(int at, int v) {
            return code(at) == root(v) && symbolType(at) == rootType(v);
        }

        void addBinding(int v, int body) {
            walk.begin();
            for (int at = start(body); at < end(body); at++) {
                int code = isVariable(at, v) ? codeOf(BOUND, walk.around()) : code(at);
                add(code, symbolType(at));
                walk.pass(code);
            }
        }

        void addOpened(int t, int s) {
            walk.begin();
            for (int at = start(t) + 1; at < end(t); at++) {
                addOrCopy(at, code(at) == codeOf(BOUND, walk.around()), s);
                walk.pass(code(at));
            }
        }

        void addReplaced(int t, int v, int s) {
            for (int at = start(t); at < end(t); at++) {
                addOrCopy(at, isVariable(at, v), s);
            }
        }

        private void addOrCopy(int at, boolean replaced, int s) {
            if (replaced) {
                copy(start(s), end(s));
            } else {
                add(code(at), symbolType(at));
            }
        }

        /** False if a type in it would be too large, or one too many. */
        boolean addRetyped(int t, TypeTable types) {
            for (int at = start(t); at < end(t); at++) {
                int type = types.image(symbolType(at));
                if (type == NONE) {
                    return false;
                }
                add(code(at), type);
            }
            return true;
        }

        boolean holds(int t, int v) {
            for (int at = start(t); at < end(t); at++) {
                if (isVariable(at, v)) {
                    return true;
                }
            }
            return false;
        }

        boolean alike(int from, int end, int otherFrom, int otherEnd) {
            if (end - from != otherEnd - otherFrom) {
                return false;
            }
            for (int i = 0; i < end - from; i++) {
                if (code(from + i) != code(otherFrom + i)
                        || symbolType(from + i) != symbolType(otherFrom + i)) {
                    return false;
                }
            }
            return true;
        }

        /** Behind the part that begins there; NONE if a variable in it is bound outside of it. */
        int endOfClosed(int from) {
            walk.begin();
            for (int at = from; at < start(count); at++) {
                int code = code(at);
                if (isOf(BOUND, code) && numberOf(code) >= walk.around()) {
                    return NONE;
                }
                walk.pass(code);
                if (walk.over()) {
                    return at + 1;
                }
            }
            return NONE;
        }
    }

    /** What the latest match made of the pattern's free variables, each from a place to a place. */
    private static final class Bindings {
        private final int[] codes = new int[MOST_LEAVES];
        private final int[] variableTypes = new int[MOST_LEAVES];
        private final int[] froms = new int[MOST_LEAVES];
        private final int[] ends = new int[MOST_LEAVES];
        private final int[] older = new int[MOST_LEAVES];
        private final int[] newest = new int[NUMBERS];
        private int count;

        Bindings() {
            Arrays.fill(newest, NONE);
        }

        int count() {
            return count;
        }

        int from(int i) {
            return read(froms, i);
        }

        int end(int i) {
            return read(ends, i);
        }

        void forget() {
            for (int i = 0; i < count && i < MOST_LEAVES; i++) {
                setNewest(codes[i], NONE);
            }
            count = 0;
        }

        int find(int code, int type) {
            int i = read(newest, numberOf(code));
            for (int left = count; left > 0 && i != NONE; left--) {
                if (read(variableTypes, i) == type) {
                    return i;
                }
                i = read(older, i);
            }
            return NONE;
        }

        void add(int code, int type, int from, int end) {
            if (count < 0 || count >= MOST_LEAVES) {
                return;
            }
            codes[count] = code;
            variableTypes[count] = type;
            froms[count] = from;
            ends[count] = end;
            older[count] = read(newest, numberOf(code));
            setNewest(code, count);
            count++;
        }

        private void setNewest(int code, int i) {
            int number = numberOf(code);
            if (number >= 0 && number < NUMBERS) {
                newest[number] = i;
            }
        }
    }
}
