/**
 * A house of function handles: typed handles are put together from others by forms, members are
 * found by the rights of who asks, fields, targets and points change, and any handle is called.
 */
public final class HandleHouse {
    public static final int NONE = -1;

    private static final int V = 0;
    private static final int Z = 1;
    private static final int B = 2;
    private static final int S = 3;
    private static final int C = 4;
    private static final int I = 5;
    private static final int J = 6;
    private static final int O = 7;
    private static final int N = 8;
    private static final int BOX_J = 14;
    private static final int ROW_I = 15;
    private static final int ROW_J = 16;
    private static final int ROW_O = 17;
    private static final int H = 18;
    private static final int E = 19;
    private static final int FIRST_CLASS = 20;
    private static final int KINDS = 32;
    /** What the kind of a BOX is above its PLAIN kind. */
    private static final int BOXING = 8;

    private static final int MOST_PLACES = 10;
    private static final int MOST_PARTS = 20;
    private static final int MOST_TYPES = 300;
    private static final int MOST_HANDLES = 500;
    private static final int MOST_THINGS = 1000;
    private static final int MOST_ELEMENTS = 100;
    private static final int MOST_VALUES = 100;
    private static final int MOST_TARGETS = 80;
    private static final int MOST_POINTS = 20;
    private static final int MOST_MEMBERS = 100;
    private static final int MOST_CELLS = 24;
    private static final int MOST_FUEL = 10000;
    private static final int MOST_BYTES = 3000;
    private static final int FED_BYTES = 20;

    private static final int CONSTANT = 0;
    private static final int HANDLE = 1;
    private static final int SELF = 2;
    private static final int OPERATION = 3;
    private static final int DROP = 4;
    private static final int MOVE = 5;
    private static final int BIND = 6;
    private static final int COLLECT = 7;
    private static final int FOLD = 8;
    private static final int RESULT = 9;
    private static final int SPREAD = 10;
    private static final int GATHER = 11;
    private static final int AS = 12;
    private static final int FORCED = 13;
    private static final int GUARD = 14;
    private static final int CATCH = 15;
    private static final int FINALLY = 16;
    private static final int SWITCH = 17;
    private static final int LOOP = 18;
    private static final int THROW = 19;
    private static final int NEW_ROW = 20;
    private static final int SIZE = 21;
    private static final int GET = 22;
    private static final int SET = 23;
    private static final int SWAP = 24;
    private static final int TRY = 25;
    private static final int ADD = 26;
    private static final int INVOKE = 27;
    private static final int INVOKE_AS = 28;
    private static final int TARGET = 29;
    private static final int POINT = 30;
    private static final int IS = 31;
    private static final int SAME = 32;
    private static final int CODE = 33;
    private static final int EMPTY = 34;
    private static final int FIELD = 35;
    private static final int VIRTUAL = 36;
    private static final int SPECIAL = 37;
    private static final int NEW = 38;

    private static final int LESS = 11;
    private static final int EQUAL = 12;

    private static final int NO_SUCH = 1;
    private static final int MISPLACED = 2;
    private static final int OTHER_KINDS = 3;
    private static final int NO_TYPE_ROOM = 4;
    private static final int NO_ROOM = 5;
    private static final int NOT_FOUND = 6;
    private static final int NOT_REACHED = 7;

    private static final int CAME = 0;
    private static final int THREW = 1;
    private static final int OUT_OF_FUEL = 2;
    private static final int TOO_DEEP = 3;
    private static final int FULL = 4;

    private static final int NULL_ERROR = 1;
    private static final int KIND_ERROR = 2;
    private static final int DIVISION_ERROR = 3;
    private static final int NEGATIVE_SIZE_ERROR = 4;
    private static final int TYPE_ERROR = 5;
    private static final int ELEMENT_ERROR = 6;
    private static final int SIZE_ERROR = 7;

    private static final int PRIVATE = 0;
    private static final int PACKAGE = 1;
    private static final int PROTECTED = 2;
    private static final int PUBLIC = 3;

    private static final int WAY_STATIC = 0;
    private static final int WAY_VIRTUAL = 1;
    private static final int WAY_SPECIAL = 2;
    private static final int WAY_NEW = 3;
    private static final int WAY_GET = 4;
    private static final int WAY_SET = 5;
    private static final int WAY_TRY = 7;
    private static final int WAY_ADD = 8;

    private final Kinds kinds = new Kinds();
    private final Types types = new Types(kinds);
    private final Handles handles = new Handles(types);
    private final Store store = new Store(kinds);
    private final Forms forms = new Forms(kinds, types, handles, store);
    private final Members members = new Members(kinds, types, handles, forms);
    private final Machine machine = new Machine(kinds, types, handles, store, members);
    private final Words words = new Words();
    private final Texts texts = new Texts(forms, words);
    private final Row row = new Row();
    private final long[] waiting = new long[MOST_PLACES];
    private int waits = 0;
    private int refusal = 0;

    public HandleHouse() {
    }

    public boolean put(int n) {
        return row.append(n);
    }

    public int newClass(int parent, int pack) {
        return kinds.tellClass(parent, pack);
    }

    public int type(int result) {
        int answer = NONE;
        if (kinds.has(result) && draftsRow()) {
            answer = types.settle(result);
        }
        row.clear();
        return answer;
    }

    private boolean draftsRow() {
        types.begin();
        for (int i = 0; i < row.size(); i++) {
            if (!kinds.hasValues(row.at(i))) {
                return false;
            }
            types.with(row.at(i));
        }
        return true;
    }

    public int typeAbout(int type, int what) {
        if (what == -1) {
            return types.resultOf(type);
        }
        if (what == -2) {
            return types.has(type) ? types.placesOf(type) : NONE;
        }
        return types.place(type, what);
    }

    public int make(int form, int a, int b, long c) {
        int answer = judged(forms.build(form, a, b, c, row));
        row.clear();
        return answer;
    }

    /** The refusals come from inside as numbers below 0. */
    private int judged(int answer) {
        refusal = answer < 0 ? -answer : 0;
        return answer < 0 ? NONE : answer;
    }

    public int handle(int h, int what) {
        if (!handles.has(h) || what < 0) {
            return NONE;
        }
        switch (what) {
            case 0:
                return handles.typeOf(h);
            case 1:
                return handles.form(h);
            case 2:
                return handles.a(h);
            case 3:
                return handles.b(h);
            case 4:
                return handles.partsOf(h);
            default:
                return handles.part(h, what - 5);
        }
    }

    public long constant(int h) {
        return handles.c(h);
    }

    public int field(int of, int name, int kind, boolean isStatic, int rights) {
        return judged(members.tellField(of, name, kind, isStatic, rights));
    }

    public int method(int of, int name, int h, boolean isStatic, int rights) {
        return judged(members.tellMethod(of, name, h, isStatic, rights));
    }

    public int find(int asker, int of, int name, int type, int way) {
        return judged(members.seek(asker, of, name, type, way));
    }

    public int refused() {
        return refusal;
    }

    public int target(int h) {
        return handles.has(h) ? store.newTarget(h) : NONE;
    }

    public boolean aim(int target, int h) {
        if (!store.hasTarget(target) || !handles.has(h)) {
            return false;
        }
        if (handles.typeOf(store.aimOf(target)) != handles.typeOf(h)) {
            return false;
        }
        store.aimAt(target, h);
        return true;
    }

    public int point() {
        return store.newPoint();
    }

    public boolean off(int point) {
        return store.turnOff(point);
    }

    public boolean pass(long v) {
        if (waits >= MOST_PLACES) {
            return false;
        }
        waiting[waits] = v;
        waits++;
        return true;
    }

    public int run(int h, int fuel) {
        int count = waits;
        waits = 0;
        if (!handles.has(h) || fuel < 1 || fuel > MOST_FUEL || handles.placesOf(h) != count) {
            return NONE;
        }
        for (int i = 0; i < count && i < MOST_PLACES; i++) {
            if (store.constantTrouble(handles.place(h, i), waiting[i]) != 0) {
                return NONE;
            }
        }
        for (int i = 0; i < count && i < MOST_PLACES; i++) {
            machine.receive(i, handles.place(h, i), waiting[i]);
        }
        return machine.start(h, fuel);
    }

    public int told(int what) {
        switch (what) {
            case 4:
                return store.things();
            case 5:
                return store.values();
            case 6:
                return types.size();
            case 7:
                return handles.size();
            case 8:
                return members.size();
            default:
                return machine.about(what);
        }
    }

    public long result() {
        return store.numberOf(machine.number(), machine.tag());
    }

    public int keep() {
        return store.newValue(machine.number(), machine.tag());
    }

    public long value(int v, int what) {
        if (what == 0) {
            return store.valueTag(v);
        }
        return what == 1 ? store.numberOf(store.valueNumber(v), store.valueTag(v)) : 0;
    }

    public long element(int v, int k, int what) {
        int kind = store.valueTag(v);
        if (!kinds.isRow(kind)) {
            return 0;
        }
        Thing thing = store.thing(store.valueNumber(v));
        if (!thing.has(k)) {
            return 0;
        }
        if (what == 0) {
            return store.numberOf(thing.number(k), thing.tag(k));
        }
        if (what != 1) {
            return 0;
        }
        return kind == ROW_O ? thing.tag(k) : kinds.elementOf(kind);
    }

    public void feed(int a, int b, int c, int d, int e) {
        words.hold(0, a);
        words.hold(4, b);
        words.hold(8, c);
        words.hold(12, d);
        words.hold(16, e);
    }

    public int end(int n) {
        return words.append(n);
    }

    public int read() {
        return texts.readAll();
    }

    public int fault(int what) {
        return texts.about(what);
    }

    public int named(long letters) {
        return texts.handleNamed(letters);
    }

    public boolean may(int a, int b, boolean forced) {
        return kinds.allows(a, b, forced);
    }

    /** The kinds, which of them are below which, and what may be passed as what. */
    private static final class Kinds {
        private final boolean[] below = new boolean[KINDS * KINDS];
        private final int[] parents = new int[KINDS];
        private final int[] packs = new int[KINDS];
        private int count = FIRST_CLASS;

        Kinds() {
            for (int k = V; k < FIRST_CLASS; k++) {
                below[k * KINDS + k] = true;
                if (k >= O) {
                    below[k * KINDS + O] = true;
                }
            }
            below[(B + BOXING) * KINDS + N] = true;
            below[(S + BOXING) * KINDS + N] = true;
            below[(I + BOXING) * KINDS + N] = true;
            below[(J + BOXING) * KINDS + N] = true;
        }

        int tellClass(int parent, int pack) {
            if (count >= KINDS || parent != O && parent != E && !isClass(parent)) {
                return NONE;
            }
            int told = count;
            for (int k = 0; k < KINDS; k++) {
                below[told * KINDS + k] = below[parent * KINDS + k];
            }
            below[told * KINDS + told] = true;
            parents[told] = parent;
            packs[told] = pack;
            count++;
            return told;
        }

        boolean has(int kind) {
            return kind >= 0 && kind < count;
        }

        boolean hasValues(int kind) {
            return has(kind) && kind != V;
        }

        boolean isClass(int kind) {
            return kind >= FIRST_CLASS && kind < count;
        }

        boolean isPlain(int kind) {
            return kind >= Z && kind <= J;
        }

        boolean isReference(int kind) {
            return kind >= O && kind < count;
        }

        boolean isBox(int kind) {
            return kind >= Z + BOXING && kind <= BOX_J;
        }

        boolean isRow(int kind) {
            return kind >= ROW_I && kind <= ROW_O;
        }

        boolean isBelow(int kind, int other) {
            if (kind < 0 || kind >= count || other < 0 || other >= count) {
                return false;
            }
            return below[kind * KINDS + other];
        }

        int parentOf(int kind) {
            return isClass(kind) ? parents[kind] : NONE;
        }

        boolean sharePack(int one, int other) {
            return isClass(one) && isClass(other) && packs[one] == packs[other];
        }

        int elementOf(int row) {
            return isRow(row) ? row - ROW_I + I : V;
        }

        boolean allows(int from, int to, boolean forced) {
            if (from <= V || from >= count || to <= V || to >= count) {
                return false;
            }
            if (from == to || from >= O && to >= O || from == O) {
                return true;
            }
            if (from <= J && to <= J) {
                return forced || widens(from, to);
            }
            if (from <= J) {
                return isBelow(from + BOXING, to);
            }
            if (from == N) {
                return forced || isBelow(to + BOXING, N);
            }
            return isBox(from) && (forced || from - BOXING == to || widens(from - BOXING, to));
        }

        boolean allowsResult(int from, int to, boolean forced) {
            return from == V && has(to) || to == V && has(from) || allows(from, to, forced);
        }

        /** Whether the number of a BOX may be passed as one of a PLAIN kind. */
        boolean opens(int box, int to) {
            return isBox(box) && (box - BOXING == to || widens(box - BOXING, to));
        }

        private boolean widens(int from, int to) {
            if (from < B || from > I) {
                return false;
            }
            return from == B && to == S || to > from && (to == I || to == J);
        }

        /** A number's lowest bits as one of a PLAIN kind: the same number if it is one. */
        long narrowed(long n, int kind) {
            switch (kind) {
                case Z:
                    return n & 1;
                case B:
                    return (byte) n;
                case S:
                    return (short) n;
                case C:
                    return (char) n;
                case I:
                    return (int) n;
                default:
                    return n;
            }
        }
    }

    /** The TYPES, and a draft of places out of which one is looked up or made. */
    private static final class Types {
        private final Kinds kinds;
        private final int[] results = new int[MOST_TYPES];
        private final int[] counts = new int[MOST_TYPES];
        private final int[] places = new int[MOST_TYPES * MOST_PLACES];
        private int size = 0;
        private final int[] draft = new int[MOST_PLACES];
        /** May go beyond MOST_PLACES: such a draft fits nowhere. */
        private int drafted = 0;

        Types(Kinds kinds) {
            this.kinds = kinds;
        }

        int size() {
            return size;
        }

        boolean has(int type) {
            return type >= 0 && type < size;
        }

        int resultOf(int type) {
            return type >= 0 && type < size ? results[type] : NONE;
        }

        int placesOf(int type) {
            return type >= 0 && type < size ? counts[type] : 0;
        }

        int place(int type, int i) {
            if (type < 0 || type >= size || i < 0 || i >= counts[type]) {
                return NONE;
            }
            return places[type * MOST_PLACES + i];
        }

        void begin() {
            drafted = 0;
        }

        void with(int kind) {
            if (drafted < MOST_PLACES) {
                draft[drafted] = kind;
            }
            drafted++;
        }

        void withPlaces(int type, int from, int to) {
            for (int i = Math.max(from, 0); i < to && i < MOST_PLACES; i++) {
                with(place(type, i));
            }
        }

        private int known(int result) {
            for (int t = 0; t < size; t++) {
                if (results[t] == result && counts[t] == drafted && isDrafted(t)) {
                    return t;
                }
            }
            return NONE;
        }

        private boolean isDrafted(int type) {
            for (int i = 0; i < drafted && i < MOST_PLACES; i++) {
                if (places[type * MOST_PLACES + i] != draft[i]) {
                    return false;
                }
            }
            return true;
        }

        boolean fits(int result) {
            return drafted <= MOST_PLACES && (size < MOST_TYPES || known(result) != NONE);
        }

        int settle(int result) {
            int known = drafted <= MOST_PLACES ? known(result) : NONE;
            if (known != NONE || drafted > MOST_PLACES || size >= MOST_TYPES) {
                return known;
            }
            results[size] = result;
            counts[size] = drafted;
            System.arraycopy(draft, 0, places, size * MOST_PLACES, drafted);
            size++;
            return size - 1;
        }

        /** Whether n places of one type, from some on, are of the kinds of those of another. */
        boolean agree(int type, int from, int other, int otherFrom, int n) {
            if (type < 0 || type >= size || other < 0 || other >= size) {
                return false;
            }
            if (from < 0 || otherFrom < 0 || n < 0) {
                return false;
            }
            if (from + n > counts[type] || otherFrom + n > counts[other]) {
                return false;
            }
            for (int i = 0; i < n; i++) {
                if (places[type * MOST_PLACES + from + i] != places[other * MOST_PLACES + otherFrom + i]) {
                    return false;
                }
            }
            return true;
        }

        /** Whether a handle of a type may be called as one of another, as AS does. */
        boolean allowsAs(int type, int outer, boolean forced) {
            if (placesOf(type) != placesOf(outer)) {
                return false;
            }
            for (int i = 0; i < placesOf(type) && i < MOST_PLACES; i++) {
                if (!kinds.allows(place(outer, i), place(type, i), forced)) {
                    return false;
                }
            }
            int came = resultOf(type);
            int due = resultOf(outer);
            return came == V || due == V || kinds.allows(came, due, forced);
        }
    }

    /** A row of numbers, as many as PARTS may be. */
    private static final class Row {
        private final int[] numbers = new int[MOST_PARTS];
        private int size = 0;

        int size() {
            return size;
        }

        int at(int i) {
            return i >= 0 && i < size ? numbers[i] : NONE;
        }

        void clear() {
            size = 0;
        }

        boolean append(int n) {
            if (size >= MOST_PARTS) {
                return false;
            }
            numbers[size] = n;
            size++;
            return true;
        }

        Row single(int n) {
            clear();
            append(n);
            return this;
        }

        Row pair(int n, int m) {
            clear();
            append(n);
            append(m);
            return this;
        }
    }

    /** The HANDLES: each one's form, a, b, c, PARTS and TYPE. */
    private static final class Handles {
        private final Types types;
        private final int[] formRow = new int[MOST_HANDLES];
        private final int[] aRow = new int[MOST_HANDLES];
        private final int[] bRow = new int[MOST_HANDLES];
        private final long[] cRow = new long[MOST_HANDLES];
        private final int[] counts = new int[MOST_HANDLES];
        private final int[] parts = new int[MOST_HANDLES * MOST_PARTS];
        private final int[] typeRow = new int[MOST_HANDLES];
        /** What each one's TYPE has stands here, too, as calls ask for it at each step. */
        private final int[] resultRow = new int[MOST_HANDLES];
        private final int[] placeCounts = new int[MOST_HANDLES];
        private final int[] places = new int[MOST_HANDLES * MOST_PLACES];
        private int size = 0;

        Handles(Types types) {
            this.types = types;
        }

        int size() {
            return size;
        }

        boolean has(int h) {
            return h >= 0 && h < size;
        }

        int form(int h) {
            return h >= 0 && h < size ? formRow[h] : NONE;
        }

        int a(int h) {
            return h >= 0 && h < size ? aRow[h] : 0;
        }

        int b(int h) {
            return h >= 0 && h < size ? bRow[h] : 0;
        }

        long c(int h) {
            return h >= 0 && h < size ? cRow[h] : 0;
        }

        int typeOf(int h) {
            return h >= 0 && h < size ? typeRow[h] : NONE;
        }

        int partsOf(int h) {
            return h >= 0 && h < size ? counts[h] : 0;
        }

        int part(int h, int i) {
            if (h < 0 || h >= size || i < 0 || i >= counts[h]) {
                return NONE;
            }
            return parts[h * MOST_PARTS + i];
        }

        int resultOf(int h) {
            return h >= 0 && h < size ? resultRow[h] : NONE;
        }

        int placesOf(int h) {
            return h >= 0 && h < size ? placeCounts[h] : 0;
        }

        int place(int h, int i) {
            if (h < 0 || h >= size || i < 0 || i >= placeCounts[h]) {
                return NONE;
            }
            return places[h * MOST_PLACES + i];
        }

        /** The kind of a LOOP clause's VARIABLE; V for none. */
        int variableKind(int init, int step) {
            int teller = step == NONE ? init : step;
            return teller < 0 || teller >= size ? V : resultRow[teller];
        }

        int known(int form, int a, int b, long c, Row row) {
            for (int h = 0; h < size; h++) {
                if (formRow[h] == form && aRow[h] == a && bRow[h] == b && cRow[h] == c && hasParts(h, row)) {
                    return h;
                }
            }
            return NONE;
        }

        private boolean hasParts(int h, Row row) {
            if (counts[h] != row.size()) {
                return false;
            }
            for (int i = 0; i < row.size(); i++) {
                if (part(h, i) != row.at(i)) {
                    return false;
                }
            }
            return true;
        }

        int append(int form, int a, int b, long c, Row row, int type) {
            if (size >= MOST_HANDLES) {
                return NONE;
            }
            formRow[size] = form;
            aRow[size] = a;
            bRow[size] = b;
            cRow[size] = c;
            counts[size] = row.size();
            for (int i = 0; i < row.size() && i < MOST_PARTS; i++) {
                parts[size * MOST_PARTS + i] = row.at(i);
            }
            typeRow[size] = type;
            resultRow[size] = types.resultOf(type);
            placeCounts[size] = types.placesOf(type);
            for (int i = 0; i < types.placesOf(type) && i < MOST_PLACES; i++) {
                places[size * MOST_PLACES + i] = types.place(type, i);
            }
            size++;
            return size - 1;
        }
    }

    /** A ROW, an INSTANCE, or the STATIC fields: cells, each with a value (a number and a tag). */
    private static final class Thing {
        private final long[] numbers;
        private final int[] tags;

        Thing(int size) {
            int cells = Math.max(size, 0);
            numbers = new long[cells];
            tags = new int[cells];
        }

        int size() {
            return numbers.length;
        }

        boolean has(int i) {
            return i >= 0 && i < numbers.length;
        }

        long number(int i) {
            return i >= 0 && i < numbers.length ? numbers[i] : 0;
        }

        int tag(int i) {
            return i >= 0 && i < tags.length ? tags[i] : 0;
        }

        boolean holds(int i, long number, int tag) {
            return number(i) == number && tag(i) == tag;
        }

        void change(int i, long number, int tag) {
            if (has(i)) {
                numbers[i] = number;
                tags[i] = tag;
            }
        }
    }

    /**
     * What changes: ROWS and INSTANCES, STATIC fields, VALUES, TARGETS and POINTS. A value is a
     * number and a tag, the kind of the OBJECT; for PLAIN numbers, and NULL (with 0), the tag is 0.
     * So two values are the same if both are.
     */
    private static final class Store {
        private final Kinds kinds;
        private final Thing[] things = new Thing[MOST_THINGS];
        private int thingCount = 0;
        private final Thing statics = new Thing(MOST_MEMBERS);
        private final Thing nothing = new Thing(0);
        private final Thing kept = new Thing(MOST_VALUES);
        private int keptCount = 0;
        private final int[] aims = new int[MOST_TARGETS];
        private int targetCount = 0;
        private final boolean[] offs = new boolean[MOST_POINTS];
        private int pointCount = 0;

        Store(Kinds kinds) {
            this.kinds = kinds;
        }

        int things() {
            return thingCount;
        }

        int values() {
            return keptCount;
        }

        Thing statics() {
            return statics;
        }

        /** A new ROW or INSTANCE, or NONE when that is FULL. */
        int newThing(int size) {
            if (size < 0 || size > MOST_ELEMENTS || thingCount >= MOST_THINGS) {
                return NONE;
            }
            things[thingCount] = new Thing(size);
            thingCount++;
            return thingCount - 1;
        }

        Thing thing(long number) {
            if (number < 0 || number >= thingCount) {
                return nothing;
            }
            Thing found = things[(int) number];
            return found == null ? nothing : found;
        }

        /** The number that the caller is told of a value. */
        long numberOf(long number, int tag) {
            if (kinds.isRow(tag)) {
                return thing(number).size();
            }
            return kinds.isClass(tag) ? 0 : number;
        }

        int newValue(long number, int tag) {
            if (tag == 0 || keptCount >= MOST_VALUES) {
                return NONE;
            }
            kept.change(keptCount, number, tag);
            keptCount++;
            return keptCount - 1;
        }

        long valueNumber(long v) {
            return v >= 0 && v < keptCount ? kept.number((int) v) : 0;
        }

        int valueTag(long v) {
            return v >= 0 && v < keptCount ? kept.tag((int) v) : 0;
        }

        /** Why c can't stand for a value of a kind: the refusal, or 0. */
        int constantTrouble(int kind, long c) {
            if (kinds.isPlain(kind)) {
                return kinds.narrowed(c, kind) == c ? 0 : MISPLACED;
            }
            if (c == NONE) {
                return 0;
            }
            if (c < 0 || c >= keptCount) {
                return NO_SUCH;
            }
            return kinds.isBelow(kept.tag((int) c), kind) ? 0 : OTHER_KINDS;
        }

        long constantNumber(int kind, long c) {
            return kinds.isPlain(kind) ? c : valueNumber(c);
        }

        int constantTag(int kind, long c) {
            return kinds.isPlain(kind) ? 0 : valueTag(c);
        }

        int newTarget(int h) {
            if (targetCount >= MOST_TARGETS) {
                return NONE;
            }
            aims[targetCount] = h;
            targetCount++;
            return targetCount - 1;
        }

        boolean hasTarget(int target) {
            return target >= 0 && target < targetCount;
        }

        int aimOf(int target) {
            return hasTarget(target) ? aims[target] : NONE;
        }

        void aimAt(int target, int h) {
            if (hasTarget(target)) {
                aims[target] = h;
            }
        }

        int newPoint() {
            if (pointCount >= MOST_POINTS) {
                return NONE;
            }
            pointCount++;
            return pointCount - 1;
        }

        boolean hasPoint(int point) {
            return point >= 0 && point < pointCount;
        }

        boolean isOff(int point) {
            return hasPoint(point) && offs[point];
        }

        boolean turnOff(int point) {
            if (!hasPoint(point) || offs[point]) {
                return false;
            }
            offs[point] = true;
            return true;
        }
    }

    /** Puts HANDLES together: looks at what is asked for, and makes it or answers -refusal. */
    private static final class Forms {
        private static final int HAS_A = 1;
        private static final int HAS_B = 2;
        private static final int HAS_C = 4;
        /** Which of a, b, c each form has. */
        private static final int[] HAS = {
            HAS_A + HAS_C, 0, HAS_A, HAS_A + HAS_B, HAS_A + HAS_B, HAS_B, HAS_A + HAS_C, HAS_A, HAS_A, 0,
            HAS_A + HAS_B, HAS_B, HAS_B, HAS_B, 0, HAS_A, 0, 0, HAS_B, HAS_A + HAS_B,
            HAS_A, HAS_A, HAS_A, HAS_A, HAS_A, HAS_A, HAS_A, HAS_B, HAS_B, HAS_A,
            HAS_A, HAS_A, 0, 0, HAS_B};
        /** How many PARTS each form has; NONE where that differs. */
        private static final int[] PARTS = {
            0, 1, 0, 0, 1, NONE, 1, 2, 2, 2, 1, 1, 1, 1, 3, 2, 2, NONE, NONE, 0,
            0, 0, 0, 0, 0, 0, 0, 0, 0, 0, 2, 0, 0, 0, 0};
        private static final int CLAUSE = 4;
        private static final int MOST_CLAUSES = 4;

        private final Kinds kinds;
        private final Types types;
        private final Handles handles;
        private final Store store;
        private final Row moved = new Row();
        private final int[] variables = new int[MOST_CLAUSES];
        private int variableCount = 0;
        private int form = 0;
        private int a = 0;
        private int b = 0;
        private long c = 0;
        private Row row = moved;
        private int h = NONE;
        private int f = NONE;
        private int g = NONE;

        Forms(Kinds kinds, Types types, Handles handles, Store store) {
            this.kinds = kinds;
            this.types = types;
            this.handles = handles;
            this.store = store;
        }

        Kinds kinds() {
            return kinds;
        }

        Types types() {
            return types;
        }

        Handles handles() {
            return handles;
        }

        Store store() {
            return store;
        }

        /** The HANDLE asked for, or -refusal. */
        int build(int form, int a, int b, long c, Row row) {
            if (form < 0 || form >= HAS.length || form >= PARTS.length) {
                return -NO_SUCH;
            }
            this.form = form;
            this.a = (HAS[form] & HAS_A) != 0 ? a : 0;
            this.b = (HAS[form] & HAS_B) != 0 ? b : 0;
            this.c = (HAS[form] & HAS_C) != 0 ? c : 0;
            this.row = row;
            h = row.at(0);
            f = row.at(1);
            g = row.at(2);
            if (lacksParts() || lacks()) {
                return -NO_SUCH;
            }
            if (isMisplaced()) {
                return -MISPLACED;
            }
            if (disagrees()) {
                return -OTHER_KINDS;
            }
            int simpler = simpler();
            if (simpler != NONE) {
                return simpler;
            }
            return settle(this.form, this.a, this.b, this.c, this.row, sketch());
        }

        /** The one handle of a form with a, b, c and PARTS, its TYPE's places being drafted. */
        int settle(int form, int a, int b, long c, Row row, int result) {
            if (!types.fits(result)) {
                return -NO_TYPE_ROOM;
            }
            int known = handles.known(form, a, b, c, row);
            if (known != NONE) {
                return known;
            }
            if (handles.size() >= MOST_HANDLES) {
                return -NO_ROOM;
            }
            return handles.append(form, a, b, c, row, types.settle(result));
        }

        private boolean lacksParts() {
            if (form == MOVE) {
                return !handles.has(h) || row.size() != 1 + handles.placesOf(h);
            }
            if (form == LOOP) {
                return row.size() == 0 || row.size() % CLAUSE != 0
                    || row.size() > CLAUSE * MOST_CLAUSES || lacksHandle(true);
            }
            if (form == SWITCH) {
                return row.size() == 0 || lacksHandle(false);
            }
            return row.size() != PARTS[form] || lacksHandle(false);
        }

        private boolean lacksHandle(boolean noneAllowed) {
            for (int i = 0; i < row.size(); i++) {
                if (!handles.has(row.at(i)) && !(noneAllowed && row.at(i) == NONE)) {
                    return true;
                }
            }
            return false;
        }

        private boolean lacks() {
            switch (form) {
                case CONSTANT:
                    return !kinds.hasValues(a) || store.constantTrouble(a, c) == NO_SUCH;
                case SELF:
                    return !kinds.hasValues(a);
                case OPERATION:
                    return a < 0 || a > EQUAL || b != I && b != J;
                case BIND:
                    return bindTrouble() == NO_SUCH;
                case DROP:
                case MOVE:
                case AS:
                case FORCED:
                case LOOP:
                case INVOKE:
                case INVOKE_AS:
                case EMPTY:
                    return !types.has(b);
                case CATCH:
                    return !kinds.isBelow(a, E);
                case THROW:
                    return !kinds.has(a) || !kinds.isBelow(b, E);
                case SPREAD:
                case NEW_ROW:
                case SIZE:
                case GET:
                case SET:
                case SWAP:
                case TRY:
                    return !kinds.isRow(a);
                case ADD:
                    return a != ROW_I && a != ROW_J;
                case TARGET:
                    return !store.hasTarget(a);
                case POINT:
                    return !store.hasPoint(a);
                case IS:
                    return !kinds.isReference(a);
                default:
                    return false;
            }
        }

        /** A place that isn't there comes ahead of its value, whose kind nobody knows then. */
        private int bindTrouble() {
            int kind = handles.place(h, a);
            return kind == NONE ? MISPLACED : store.constantTrouble(kind, c);
        }

        private boolean isMisplaced() {
            int places = handles.placesOf(h);
            switch (form) {
                case CONSTANT:
                    return store.constantTrouble(a, c) == MISPLACED;
                case DROP:
                    return a < 0 || a > places;
                case MOVE:
                    return isMovedOutside();
                case BIND:
                    return bindTrouble() == MISPLACED;
                case COLLECT:
                case FOLD:
                    return a < 0 || a > places - given();
                case SPREAD:
                    return b < 0 || b > places;
                case GATHER:
                    return b < 0 || b > MOST_PLACES;
                default:
                    return false;
            }
        }

        /** How many values f gives to h in COLLECT and FOLD. */
        private int given() {
            return handles.resultOf(f) == V ? 0 : 1;
        }

        private boolean isMovedOutside() {
            for (int i = 1; i < row.size(); i++) {
                if (row.at(i) < 0 || row.at(i) >= types.placesOf(b)) {
                    return true;
                }
            }
            return false;
        }

        private boolean disagrees() {
            switch (form) {
                case CONSTANT:
                    return store.constantTrouble(a, c) == OTHER_KINDS;
                case MOVE:
                    return disagreesMove();
                case BIND:
                    return bindTrouble() == OTHER_KINDS;
                case COLLECT:
                    return disagreesGiven();
                case FOLD:
                    return disagreesGiven()
                        || !types.agree(handles.typeOf(f), 0, handles.typeOf(h), a + given(), handles.placesOf(f));
                case RESULT:
                    return handles.placesOf(f) != (handles.resultOf(h) == V ? 0 : 1)
                        || handles.resultOf(h) != V && handles.place(f, 0) != handles.resultOf(h);
                case SPREAD:
                    return disagreesSpread();
                case GATHER:
                    return !kinds.isRow(lastPlace());
                case AS:
                case FORCED:
                    return !types.allowsAs(handles.typeOf(h), b, form == FORCED);
                case GUARD:
                    return handles.typeOf(f) != handles.typeOf(g) || handles.resultOf(h) != Z
                        || !types.agree(handles.typeOf(h), 0, handles.typeOf(f), 0, handles.placesOf(h));
                case CATCH:
                    return handles.place(f, 0) != a || disagreesBehind(1);
                case FINALLY:
                    return disagreesFinally();
                case SWITCH:
                    return disagreesSwitch();
                case LOOP:
                    return disagreesLoop();
                case POINT:
                    return handles.typeOf(h) != handles.typeOf(f);
                default:
                    return false;
            }
        }

        private int lastPlace() {
            return handles.place(h, handles.placesOf(h) - 1);
        }

        private boolean disagreesMove() {
            if (types.resultOf(b) != handles.resultOf(h)) {
                return true;
            }
            for (int i = 1; i < row.size(); i++) {
                if (types.place(b, row.at(i)) != handles.place(h, i - 1)) {
                    return true;
                }
            }
            return false;
        }

        private boolean disagreesGiven() {
            return handles.resultOf(f) != V && handles.place(h, a) != handles.resultOf(f);
        }

        private boolean disagreesSpread() {
            int places = handles.placesOf(h);
            for (int i = Math.max(places - b, 0); i < places; i++) {
                if (handles.place(h, i) != kinds.elementOf(a)) {
                    return true;
                }
            }
            return false;
        }

        /** Whether f hasn't first places of h behind some own ones, or h's RESULT. */
        private boolean disagreesBehind(int own) {
            return handles.resultOf(f) != handles.resultOf(h)
                || !types.agree(handles.typeOf(f), own, handles.typeOf(h), 0, handles.placesOf(f) - own);
        }

        private boolean disagreesFinally() {
            if (handles.place(f, 0) != E) {
                return true;
            }
            if (handles.resultOf(h) == V) {
                return disagreesBehind(1);
            }
            return handles.place(f, 1) != handles.resultOf(h) || disagreesBehind(2);
        }

        private boolean disagreesSwitch() {
            for (int i = 1; i < row.size(); i++) {
                if (handles.typeOf(row.at(i)) != handles.typeOf(h)) {
                    return true;
                }
            }
            return handles.place(h, 0) != I;
        }

        private boolean disagreesLoop() {
            boolean hasTest = false;
            findVariables();
            for (int i = 0; i < row.size(); i += CLAUSE) {
                int init = row.at(i);
                int step = row.at(i + 1);
                int test = row.at(i + 2);
                int last = row.at(i + 3);
                hasTest = hasTest || test != NONE;
                if (last != NONE && test == NONE || disagreesInit(init, step)) {
                    return true;
                }
                if (disagreesRound(step) || disagreesRound(test) || disagreesRound(last)) {
                    return true;
                }
                if (test != NONE && handles.resultOf(test) != Z) {
                    return true;
                }
                if (last != NONE && handles.resultOf(last) != types.resultOf(b)) {
                    return true;
                }
            }
            return !hasTest;
        }

        private void findVariables() {
            variableCount = 0;
            for (int i = 0; i < row.size() && variableCount < MOST_CLAUSES; i += CLAUSE) {
                int kind = handles.variableKind(row.at(i), row.at(i + 1));
                if (kind != V) {
                    variables[variableCount] = kind;
                    variableCount++;
                }
            }
        }

        private boolean disagreesInit(int init, int step) {
            if (init == NONE) {
                return false;
            }
            return step != NONE && handles.resultOf(step) != handles.resultOf(init)
                || !types.agree(handles.typeOf(init), 0, b, 0, handles.placesOf(init));
        }

        /** Whether a part called in rounds hasn't first places of (the VARIABLES, A). */
        private boolean disagreesRound(int part) {
            for (int i = 0; i < handles.placesOf(part); i++) {
                int kind = i < variableCount && i < MOST_CLAUSES ? variables[i] : types.place(b, i - variableCount);
                if (handles.place(part, i) != kind) {
                    return true;
                }
            }
            return false;
        }

        /** The simpler handle that what is asked for comes out as, or NONE. */
        private int simpler() {
            switch (form) {
                case DROP:
                    return types.placesOf(b) == 0 ? h : NONE;
                case MOVE:
                    joinMoves();
                    return b == handles.typeOf(h) && staysInPlace() ? h : NONE;
                case AS:
                case FORCED:
                    return b == handles.typeOf(h) ? h : NONE;
                case COLLECT:
                case RESULT:
                    return handles.form(f) == SELF ? h : NONE;
                default:
                    return NONE;
            }
        }

        /** A MOVE of a MOVE asks for one MOVE of that one's h. */
        private void joinMoves() {
            if (handles.form(h) != MOVE) {
                return;
            }
            Row outer = row;
            int inner = handles.part(h, 0);
            moved.single(inner);
            for (int i = 1; i < handles.partsOf(h); i++) {
                moved.append(outer.at(handles.part(h, i) + 1));
            }
            h = inner;
            row = moved;
        }

        private boolean staysInPlace() {
            for (int i = 1; i < row.size(); i++) {
                if (row.at(i) != i - 1) {
                    return false;
                }
            }
            return true;
        }

        /** Drafts the places of the form's TYPE; answers its RESULT. */
        private int sketch() {
            types.begin();
            int places = handles.placesOf(h);
            switch (form) {
                case DROP:
                    return sketchInside(b, a);
                case BIND:
                    return sketchInside(NONE, a + 1);
                case COLLECT:
                    return sketchInside(handles.typeOf(f), a + given());
                case FOLD:
                    return sketchInside(NONE, a + given());
                case RESULT:
                    types.withPlaces(handles.typeOf(h), 0, places);
                    return handles.resultOf(f);
                case SPREAD:
                    types.withPlaces(handles.typeOf(h), 0, places - b);
                    types.with(a);
                    return handles.resultOf(h);
                case GATHER:
                    types.withPlaces(handles.typeOf(h), 0, places - 1);
                    for (int i = 0; i < b && i < MOST_PLACES; i++) {
                        types.with(kinds.elementOf(lastPlace()));
                    }
                    return handles.resultOf(h);
                case GUARD:
                    return sketchType(handles.typeOf(f));
                case CATCH:
                case FINALLY:
                case SWITCH:
                case POINT:
                    return sketchType(handles.typeOf(h));
                case MOVE:
                case AS:
                case FORCED:
                case LOOP:
                case EMPTY:
                    return sketchType(b);
                case INVOKE:
                case INVOKE_AS:
                    types.with(H);
                    return sketchType(b);
                case TARGET:
                    return sketchType(handles.typeOf(store.aimOf(a)));
                default:
                    return sketchFirst();
            }
        }

        /** The places of h, but from a on those of a type, then h's from some place on. */
        private int sketchInside(int type, int again) {
            types.withPlaces(handles.typeOf(h), 0, a);
            types.withPlaces(type, 0, types.placesOf(type));
            types.withPlaces(handles.typeOf(h), again, handles.placesOf(h));
            return handles.resultOf(h);
        }

        private int sketchType(int type) {
            types.withPlaces(type, 0, types.placesOf(type));
            return types.resultOf(type);
        }

        /** The forms that are put together from no others. */
        private int sketchFirst() {
            switch (form) {
                case CONSTANT:
                    return a;
                case HANDLE:
                    return H;
                case SELF:
                    types.with(a);
                    return a;
                case OPERATION:
                    types.with(b);
                    types.with(b);
                    return a >= LESS ? Z : b;
                case THROW:
                    types.with(b);
                    return a;
                case NEW_ROW:
                    types.with(I);
                    return a;
                case SIZE:
                    types.with(a);
                    return I;
                case IS:
                    types.with(O);
                    return Z;
                case SAME:
                    types.with(O);
                    types.with(O);
                    return Z;
                case CODE:
                    types.with(E);
                    return I;
                default:
                    types.with(a);
                    types.with(I);
                    return sketchChange(kinds.elementOf(a), form - GET + WAY_GET);
            }
        }

        /** What a way of using an ELEMENT or a FIELD of a kind takes, and its RESULT. */
        int sketchChange(int kind, int way) {
            if (way != WAY_GET) {
                types.with(kind);
            }
            if (way == WAY_TRY) {
                types.with(kind);
                return Z;
            }
            return way == WAY_SET ? V : kind;
        }
    }

    /** FIELDS and METHODS of CLASSES, and who may find them. */
    private static final class Members {
        private static final int MOST_NAME = 99;

        private final Kinds kinds;
        private final Types types;
        private final Handles handles;
        private final Forms forms;
        private final int[] owners = new int[MOST_MEMBERS];
        private final int[] names = new int[MOST_MEMBERS];
        private final int[] rightsRow = new int[MOST_MEMBERS];
        private final boolean[] statics = new boolean[MOST_MEMBERS];
        /** The kind of a FIELD; V for a METHOD. */
        private final int[] kindRow = new int[MOST_MEMBERS];
        private final int[] handleRow = new int[MOST_MEMBERS];
        private final int[] typeRow = new int[MOST_MEMBERS];
        private final int[] cells = new int[MOST_MEMBERS];
        private final Row noParts = new Row();
        private int size = 0;
        private int cellCount = 0;

        Members(Kinds kinds, Types types, Handles handles, Forms forms) {
            this.kinds = kinds;
            this.types = types;
            this.handles = handles;
            this.forms = forms;
        }

        int size() {
            return size;
        }

        private boolean has(int member) {
            return member >= 0 && member < size;
        }

        int tellField(int of, int name, int kind, boolean isStatic, int rights) {
            if (!kinds.isClass(of) || !kinds.hasValues(kind)) {
                return -NO_SUCH;
            }
            if (isMisnamed(name, rights)) {
                return -MISPLACED;
            }
            if (size >= MOST_MEMBERS || !isStatic && cellCount >= MOST_CELLS) {
                return -NO_ROOM;
            }
            kindRow[size] = kind;
            handleRow[size] = NONE;
            typeRow[size] = NONE;
            // STATIC ones have their cells by member number, in one thing for all
            cells[size] = isStatic ? size : cellCount;
            cellCount += isStatic ? 0 : 1;
            return append(of, name, isStatic, rights);
        }

        int tellMethod(int of, int name, int h, boolean isStatic, int rights) {
            if (!kinds.isClass(of) || !handles.has(h)) {
                return -NO_SUCH;
            }
            if (isMisnamed(name, rights)) {
                return -MISPLACED;
            }
            if (!isStatic && handles.place(h, 0) != of) {
                return -OTHER_KINDS;
            }
            types.begin();
            types.withPlaces(handles.typeOf(h), isStatic ? 0 : 1, handles.placesOf(h));
            if (!types.fits(handles.resultOf(h))) {
                return -NO_TYPE_ROOM;
            }
            if (size >= MOST_MEMBERS) {
                return -NO_ROOM;
            }
            kindRow[size] = V;
            handleRow[size] = h;
            typeRow[size] = types.settle(handles.resultOf(h));
            cells[size] = NONE;
            return append(of, name, isStatic, rights);
        }

        private boolean isMisnamed(int name, int rights) {
            return name < 0 || name > MOST_NAME || rights < PRIVATE || rights > PUBLIC;
        }

        private int append(int of, int name, boolean isStatic, int rights) {
            if (size >= MOST_MEMBERS) {
                return -NO_ROOM;
            }
            owners[size] = of;
            names[size] = name;
            statics[size] = isStatic;
            rightsRow[size] = rights;
            size++;
            return size - 1;
        }

        /** The HANDLE found, or -refusal. */
        int seek(int asker, int of, int name, int type, int way) {
            if (!kinds.isClass(asker) || !kinds.isClass(of) || way < WAY_STATIC || way > WAY_ADD) {
                return -NO_SUCH;
            }
            if (way < WAY_GET && !types.has(type)) {
                return -NO_SUCH;
            }
            if (name < 0 || name > MOST_NAME) {
                return -MISPLACED;
            }
            int member = firstOf(of, name, type, way);
            if (member == NONE) {
                return -NOT_FOUND;
            }
            if (way == WAY_ADD && !isCounted(kindOf(member))) {
                return -OTHER_KINDS;
            }
            if (!reaches(asker, member) || way == WAY_SPECIAL && !kinds.isBelow(asker, of)) {
                return -NOT_REACHED;
            }
            return handleFor(asker, of, member, way);
        }

        private int firstOf(int of, int name, int type, int way) {
            int owner = of;
            for (int up = 0; up < KINDS && kinds.isClass(owner); up++) {
                for (int m = 0; m < size; m++) {
                    if (owners[m] == owner && names[m] == name && suits(m, type, way)) {
                        return m;
                    }
                }
                owner = way == WAY_NEW ? NONE : kinds.parentOf(owner);
            }
            return NONE;
        }

        private boolean suits(int member, int type, int way) {
            if (way >= WAY_GET) {
                return kindOf(member) != V;
            }
            if (kindOf(member) != V || typeRow[member] != type) {
                return false;
            }
            if (way == WAY_STATIC) {
                return statics[member];
            }
            return !statics[member] && isMaker(member) == (way == WAY_NEW);
        }

        private boolean isMaker(int member) {
            return kindOf(member) == V && !statics[member] && names[member] == 0
                && types.resultOf(typeRow[member]) == V;
        }

        private boolean isCounted(int kind) {
            return kind >= B && kind <= J;
        }

        private boolean reaches(int asker, int member) {
            int owner = owners[member];
            switch (rightsRow[member]) {
                case PRIVATE:
                    return asker == owner;
                case PACKAGE:
                    return kinds.sharePack(asker, owner);
                case PROTECTED:
                    return kinds.sharePack(asker, owner) || kinds.isBelow(asker, owner);
                default:
                    return true;
            }
        }

        private int handleFor(int asker, int of, int member, int way) {
            types.begin();
            switch (way) {
                case WAY_STATIC:
                    return handleRow[member];
                case WAY_VIRTUAL:
                    types.with(of);
                    return settle(VIRTUAL, member, of, draftMethod(member));
                case WAY_SPECIAL:
                    types.with(asker);
                    return settle(SPECIAL, member, asker, draftMethod(member));
                case WAY_NEW:
                    draftMethod(member);
                    return settle(NEW, member, 0, of);
                default:
                    return fieldHandle(of, member, way);
            }
        }

        private int draftMethod(int member) {
            types.withPlaces(typeRow[member], 0, types.placesOf(typeRow[member]));
            return types.resultOf(typeRow[member]);
        }

        private int settle(int form, int member, int kind, int result) {
            return forms.settle(form, member, kind, 0, noParts, result);
        }

        private int fieldHandle(int of, int member, int way) {
            int owner = statics[member] ? 0 : of;
            if (owner != 0) {
                types.with(owner);
            }
            int result = forms.sketchChange(kindOf(member), way);
            return forms.settle(FIELD, member, way, owner, noParts, result);
        }

        int kindOf(int member) {
            return has(member) ? kindRow[member] : V;
        }

        int cellOf(int member) {
            return has(member) ? cells[member] : NONE;
        }

        boolean isStatic(int member) {
            return has(member) && statics[member];
        }

        int handleOf(int member) {
            return has(member) ? handleRow[member] : NONE;
        }

        int ownerOf(int member) {
            return has(member) ? owners[member] : NONE;
        }

        /** The HANDLE that a VIRTUAL METHOD comes to for an OBJECT of a CLASS. */
        int chosenFor(int found, int kind) {
            if (!has(found) || rightsRow[found] == PRIVATE) {
                return handleOf(found);
            }
            int best = found;
            for (int m = 0; m < size; m++) {
                boolean closer = owners[m] != owners[best] && kinds.isBelow(owners[m], owners[best]);
                if (closer && kinds.isBelow(kind, owners[m]) && overrides(m, found)) {
                    best = m;
                }
            }
            return handleOf(best);
        }

        private boolean overrides(int member, int found) {
            return names[member] == names[found] && typeRow[member] == typeRow[found]
                && kindOf(member) == V && !statics[member] && !isMaker(member)
                && rightsRow[member] != PRIVATE;
        }
    }

    /**
     * Calls HANDLES. Each open CALL has a frame, its values in front, a LOOP's VARIABLES behind
     * them; who calls lays the values into the next frame. What a CALL came to or threw stands in
     * number and tag, its outcome is answered.
     */
    private static final class Machine {
        private static final int FRAME = 16;
        private static final int VARIABLES = MOST_PLACES;
        private static final int DEEPEST = 100;
        private static final int CLAUSE = 4;

        private final Kinds kinds;
        private final Types types;
        private final Handles handles;
        private final Store store;
        private final Members members;
        private final long[] numbers = new long[FRAME * (DEEPEST + 1)];
        private final int[] tags = new int[FRAME * (DEEPEST + 1)];
        private int fuel = 0;
        private int steps = 0;
        private long number = 0;
        private int tag = 0;
        private int outcome = NONE;
        private int kind = V;

        Machine(Kinds kinds, Types types, Handles handles, Store store, Members members) {
            this.kinds = kinds;
            this.types = types;
            this.handles = handles;
            this.store = store;
            this.members = members;
        }

        long number() {
            return number;
        }

        int tag() {
            return tag;
        }

        int about(int what) {
            switch (what) {
                case 0:
                    return outcome;
                case 1:
                    return steps;
                case 2:
                    return kind;
                case 3:
                    return tag;
                default:
                    return NONE;
            }
        }

        void receive(int i, int placeKind, long v) {
            lay(0, i, store.constantNumber(placeKind, v), store.constantTag(placeKind, v));
        }

        int start(int h, int given) {
            fuel = given;
            steps = 0;
            outcome = call(h, 0);
            kind = outcome == CAME ? handles.resultOf(h) : outcome == THREW ? E : V;
            if (outcome != CAME && outcome != THREW) {
                give(0, 0);
            }
            return outcome;
        }

        private int give(long n, int t) {
            number = n;
            tag = t;
            return CAME;
        }

        private int fail(int code) {
            number = code;
            tag = E;
            return THREW;
        }

        private long numberAt(int depth, int i) {
            int slot = depth * FRAME + i;
            return slot >= 0 && slot < numbers.length ? numbers[slot] : 0;
        }

        private int tagAt(int depth, int i) {
            int slot = depth * FRAME + i;
            return slot >= 0 && slot < tags.length ? tags[slot] : 0;
        }

        private void lay(int depth, int i, long n, int t) {
            int slot = depth * FRAME + i;
            if (slot >= 0 && slot < numbers.length && slot < tags.length) {
                numbers[slot] = n;
                tags[slot] = t;
            }
        }

        /** Lays n values of a CALL, from one on, for the CALL within it, from a place on. */
        private void lend(int depth, int from, int place, int n) {
            for (int i = 0; i < n && i < FRAME; i++) {
                lay(depth + 1, place + i, numberAt(depth, from + i), tagAt(depth, from + i));
            }
        }

        private void lendFirst(int depth, int part) {
            lend(depth, 0, 0, handles.placesOf(part));
        }

        private int call(int h, int depth) {
            if (depth >= DEEPEST) {
                return TOO_DEEP;
            }
            if (steps >= fuel) {
                return OUT_OF_FUEL;
            }
            steps++;
            switch (handles.form(h)) {
                case DROP:
                case MOVE:
                case BIND:
                case SWITCH:
                case TARGET:
                case POINT:
                    return callOnce(h, depth);
                case COLLECT:
                case FOLD:
                    return callGiving(h, depth);
                case RESULT:
                    return callResult(h, depth);
                case SPREAD:
                    return callSpread(h, depth);
                case GATHER:
                    return callGathered(h, depth);
                case AS:
                case FORCED:
                    return callAs(handles.part(h, 0), handles.b(h), 0, depth, handles.form(h) == FORCED);
                case GUARD:
                    return callGuard(h, depth);
                case CATCH:
                    return callCatch(h, depth);
                case FINALLY:
                    return callFinally(h, depth);
                case LOOP:
                    int began = beginLoop(h, depth);
                    return began == CAME ? callRounds(h, depth) : began;
                case INVOKE:
                case INVOKE_AS:
                    int invoked = invokedBy(h, depth);
                    return invoked < 0 ? fail(-invoked) : callAs(invoked, handles.b(h), 1, depth, false);
                case VIRTUAL:
                case SPECIAL:
                    return callMethod(h, depth);
                case NEW:
                    return callMaker(h, depth);
                default:
                    return perform(h, depth);
            }
        }

        /** The forms that call just one handle, and come to what it comes to. */
        private int callOnce(int h, int depth) {
            int part = handles.part(h, 0);
            int a = handles.a(h);
            switch (handles.form(h)) {
                case DROP:
                    lend(depth, 0, 0, a);
                    lend(depth, a + types.placesOf(handles.b(h)), a, handles.placesOf(part) - a);
                    break;
                case MOVE:
                    for (int i = 0; i < handles.placesOf(part); i++) {
                        lend(depth, handles.part(h, i + 1), i, 1);
                    }
                    break;
                case BIND:
                    int kindBound = handles.place(part, a);
                    long c = handles.c(h);
                    lend(depth, 0, 0, a);
                    lay(depth + 1, a, store.constantNumber(kindBound, c), store.constantTag(kindBound, c));
                    lend(depth, a, a + 1, handles.placesOf(part) - a - 1);
                    break;
                case SWITCH:
                    part = switched(h, numberAt(depth, 0));
                    lendFirst(depth, part);
                    break;
                case TARGET:
                    part = store.aimOf(a);
                    lendFirst(depth, part);
                    break;
                default:
                    part = handles.part(h, store.isOff(a) ? 1 : 0);
                    lendFirst(depth, part);
                    break;
            }
            return call(part, depth + 1);
        }

        private int switched(int h, long number) {
            boolean isThere = number >= 0 && number < handles.partsOf(h) - 1;
            return handles.part(h, isThere ? (int) number + 1 : 0);
        }

        private int callGiving(int h, int depth) {
            int part = handles.part(h, 0);
            int giver = handles.part(h, 1);
            int a = handles.a(h);
            int taken = handles.placesOf(giver);
            lend(depth, a, 0, taken);
            int came = call(giver, depth + 1);
            if (came != CAME) {
                return came;
            }
            int given = handles.resultOf(giver) == V ? 0 : 1;
            lend(depth, 0, 0, a);
            if (given == 1) {
                lay(depth + 1, a, number, tag);
            }
            int behind = handles.form(h) == FOLD ? a : a + taken;
            lend(depth, behind, a + given, handles.placesOf(part) - a - given);
            return call(part, depth + 1);
        }

        private int callResult(int h, int depth) {
            int part = handles.part(h, 0);
            lendFirst(depth, part);
            int came = call(part, depth + 1);
            if (came != CAME) {
                return came;
            }
            lay(depth + 1, 0, number, tag);
            return call(handles.part(h, 1), depth + 1);
        }

        private int callSpread(int h, int depth) {
            int part = handles.part(h, 0);
            int size = handles.b(h);
            int first = handles.placesOf(part) - size;
            if (tagAt(depth, first) == 0 && size != 0) {
                return fail(NULL_ERROR);
            }
            // NULL stands for no elements: it comes here with size 0 alone
            Thing row = store.thing(tagAt(depth, first) == 0 ? NONE : numberAt(depth, first));
            if (row.size() != size) {
                return fail(SIZE_ERROR);
            }
            lend(depth, 0, 0, first);
            for (int i = 0; i < size && i < MOST_PLACES; i++) {
                lay(depth + 1, first + i, row.number(i), row.tag(i));
            }
            return call(part, depth + 1);
        }

        private int callGathered(int h, int depth) {
            int part = handles.part(h, 0);
            int first = handles.placesOf(part) - 1;
            int size = handles.b(h);
            int made = store.newThing(size);
            if (made == NONE) {
                return FULL;
            }
            Thing row = store.thing(made);
            for (int i = 0; i < size && i < MOST_PLACES; i++) {
                row.change(i, numberAt(depth, first + i), tagAt(depth, first + i));
            }
            lend(depth, 0, 0, first);
            lay(depth + 1, first, made, handles.place(part, first));
            return call(part, depth + 1);
        }

        /** Calls a part with the values from one on, those being of a type's places. */
        private int callAs(int part, int type, int from, int depth, boolean forced) {
            for (int i = 0; i < handles.placesOf(part); i++) {
                give(numberAt(depth, from + i), tagAt(depth, from + i));
                int error = convert(types.place(type, i), handles.place(part, i), forced);
                if (error != 0) {
                    return fail(error);
                }
                lay(depth + 1, i, number, tag);
            }
            int came = call(part, depth + 1);
            if (came != CAME) {
                return came;
            }
            int error = convert(handles.resultOf(part), types.resultOf(type), forced);
            return error == 0 ? CAME : fail(error);
        }

        /** Passes or forces the value at hand; answers the ERROR, or 0. */
        private int convert(int from, int to, boolean forced) {
            if (from == V || to == V) {
                give(0, 0);
                return 0;
            }
            if (from == to) {
                return 0;
            }
            if (kinds.isPlain(from)) {
                if (kinds.isPlain(to)) {
                    give(kinds.narrowed(number, to), 0);
                } else {
                    give(number, from + BOXING);
                }
                return 0;
            }
            if (kinds.isPlain(to)) {
                return unbox(to, forced);
            }
            return tag == 0 || kinds.isBelow(tag, to) ? 0 : KIND_ERROR;
        }

        private int unbox(int to, boolean forced) {
            if (tag == 0) {
                return forced ? 0 : NULL_ERROR;
            }
            if (!kinds.isBox(tag) || !forced && !kinds.opens(tag, to)) {
                return KIND_ERROR;
            }
            give(kinds.narrowed(number, to), 0);
            return 0;
        }

        private int callGuard(int h, int depth) {
            int test = handles.part(h, 0);
            lendFirst(depth, test);
            int came = call(test, depth + 1);
            if (came != CAME) {
                return came;
            }
            int part = handles.part(h, number == 1 ? 1 : 2);
            lendFirst(depth, part);
            return call(part, depth + 1);
        }

        private int callCatch(int h, int depth) {
            int part = handles.part(h, 0);
            int catcher = handles.part(h, 1);
            lendFirst(depth, part);
            int came = call(part, depth + 1);
            if (came != THREW || !kinds.isBelow(tag, handles.a(h))) {
                return came;
            }
            lay(depth + 1, 0, number, tag);
            lend(depth, 0, 1, handles.placesOf(catcher) - 1);
            return call(catcher, depth + 1);
        }

        private int callFinally(int h, int depth) {
            int part = handles.part(h, 0);
            int last = handles.part(h, 1);
            lendFirst(depth, part);
            int came = call(part, depth + 1);
            if (came != CAME && came != THREW) {
                return came;
            }
            boolean threw = came == THREW;
            long thrown = threw ? number : 0;
            int thrownTag = threw ? tag : 0;
            int own = 1;
            lay(depth + 1, 0, thrown, thrownTag);
            if (handles.resultOf(part) != V) {
                lay(depth + 1, 1, threw ? 0 : number, threw ? 0 : tag);
                own = 2;
            }
            lend(depth, 0, own, handles.placesOf(last) - own);
            int lastCame = call(last, depth + 1);
            if (threw && lastCame == CAME) {
                give(thrown, thrownTag);
                return THREW;
            }
            return lastCame;
        }

        /** Calls the INITS and fills the VARIABLES of this CALL's frame. */
        private int beginLoop(int h, int depth) {
            int variable = 0;
            for (int i = 0; i < handles.partsOf(h); i += CLAUSE) {
                int init = handles.part(h, i);
                give(0, 0);
                if (init != NONE) {
                    lendFirst(depth, init);
                    int came = call(init, depth + 1);
                    if (came != CAME) {
                        return came;
                    }
                }
                if (handles.variableKind(init, handles.part(h, i + 1)) != V) {
                    lay(depth, VARIABLES + variable, number, tag);
                    variable++;
                }
            }
            return CAME;
        }

        private int callRounds(int h, int depth) {
            int count = variablesOf(h);
            for (int round = 0; round <= MOST_FUEL; round++) {
                int variable = 0;
                for (int i = 0; i < handles.partsOf(h); i += CLAUSE) {
                    int step = handles.part(h, i + 1);
                    int test = handles.part(h, i + 2);
                    boolean varies = handles.variableKind(handles.part(h, i), step) != V;
                    if (step != NONE) {
                        lendRound(step, count, depth);
                        int came = call(step, depth + 1);
                        if (came != CAME) {
                            return came;
                        }
                        if (varies) {
                            lay(depth, VARIABLES + variable, number, tag);
                        }
                    }
                    variable += varies ? 1 : 0;
                    if (test != NONE) {
                        lendRound(test, count, depth);
                        int came = call(test, depth + 1);
                        if (came != CAME) {
                            return came;
                        }
                        if (number == 0) {
                            int last = handles.part(h, i + 3);
                            give(0, 0);
                            lendRound(last, count, depth);
                            return last == NONE ? CAME : call(last, depth + 1);
                        }
                    }
                }
            }
            return OUT_OF_FUEL;
        }

        private int variablesOf(int h) {
            int count = 0;
            for (int i = 0; i < handles.partsOf(h); i += CLAUSE) {
                count += handles.variableKind(handles.part(h, i), handles.part(h, i + 1)) != V ? 1 : 0;
            }
            return count;
        }

        /** Lays first ones of the VARIABLES and this CALL's values. */
        private void lendRound(int part, int variables, int depth) {
            int places = handles.placesOf(part);
            lend(depth, VARIABLES, 0, Math.min(variables, places));
            lend(depth, 0, variables, places - variables);
        }

        /** The HANDLE of the OBJECT of H that is invoked, or -ERROR. */
        private int invokedBy(int h, int depth) {
            if (tagAt(depth, 0) == 0) {
                return -NULL_ERROR;
            }
            int invoked = (int) numberAt(depth, 0);
            int type = handles.b(h);
            boolean same = handles.typeOf(invoked) == type;
            boolean fits = handles.form(h) == INVOKE_AS && types.allowsAs(handles.typeOf(invoked), type, false);
            return same || fits ? invoked : -TYPE_ERROR;
        }

        private int callMethod(int h, int depth) {
            int found = handles.a(h);
            if (tagAt(depth, 0) == 0) {
                return fail(NULL_ERROR);
            }
            boolean isVirtual = handles.form(h) == VIRTUAL;
            int part = isVirtual ? members.chosenFor(found, tagAt(depth, 0)) : members.handleOf(found);
            lendFirst(depth, part);
            return call(part, depth + 1);
        }

        private int callMaker(int h, int depth) {
            int found = handles.a(h);
            int part = members.handleOf(found);
            int made = store.newThing(MOST_CELLS);
            if (made == NONE) {
                return FULL;
            }
            lay(depth + 1, 0, made, members.ownerOf(found));
            lend(depth, 0, 1, handles.placesOf(part) - 1);
            int came = call(part, depth + 1);
            return came == CAME ? give(made, members.ownerOf(found)) : came;
        }

        /** The forms that call no other handle. */
        private int perform(int h, int depth) {
            int a = handles.a(h);
            switch (handles.form(h)) {
                case CONSTANT:
                    return give(store.constantNumber(a, handles.c(h)), store.constantTag(a, handles.c(h)));
                case HANDLE:
                    return give(handles.part(h, 0), H);
                case SELF:
                    return give(numberAt(depth, 0), tagAt(depth, 0));
                case OPERATION:
                    return operate(a, handles.b(h) == J, numberAt(depth, 0), numberAt(depth, 1));
                case THROW:
                    give(numberAt(depth, 0), tagAt(depth, 0));
                    return tag == 0 ? fail(NULL_ERROR) : THREW;
                case NEW_ROW:
                    return makeRow(a, (int) numberAt(depth, 0));
                case SIZE:
                    if (tagAt(depth, 0) == 0) {
                        return fail(NULL_ERROR);
                    }
                    return give(store.thing(numberAt(depth, 0)).size(), 0);
                case GET:
                case SET:
                case SWAP:
                case TRY:
                case ADD:
                    return useElement(h, depth);
                case IS:
                    return give(tagAt(depth, 0) != 0 && kinds.isBelow(tagAt(depth, 0), a) ? 1 : 0, 0);
                case SAME:
                    return give(isSame(depth) ? 1 : 0, 0);
                case CODE:
                    if (tagAt(depth, 0) == 0) {
                        return fail(NULL_ERROR);
                    }
                    return give(tagAt(depth, 0) == E ? numberAt(depth, 0) : 0, 0);
                case FIELD:
                    return useField(h, depth);
                default:
                    return give(0, 0);
            }
        }

        private boolean isSame(int depth) {
            return numberAt(depth, 0) == numberAt(depth, 1) && tagAt(depth, 0) == tagAt(depth, 1);
        }

        private int operate(int a, boolean isLong, long x, long y) {
            if (a == LESS) {
                return give(x < y ? 1 : 0, 0);
            }
            if (a == EQUAL) {
                return give(x == y ? 1 : 0, 0);
            }
            if ((a == 3 || a == 4) && y == 0) {
                return fail(DIVISION_ERROR);
            }
            long answer = a >= 8 ? shifted(a, isLong, x, (int) y) : joined(a, x, y);
            return give(isLong ? answer : (int) answer, 0);
        }

        private long joined(int a, long x, long y) {
            switch (a) {
                case 0:
                    return x + y;
                case 1:
                    return x - y;
                case 2:
                    return x * y;
                case 3:
                    return y == 0 ? 0 : x / y;
                case 4:
                    return y == 0 ? 0 : x % y;
                case 5:
                    return x & y;
                case 6:
                    return x | y;
                default:
                    return x ^ y;
            }
        }

        private long shifted(int a, boolean isLong, long x, int by) {
            switch (a) {
                case 8:
                    return isLong ? x << by : (int) x << by;
                case 9:
                    return isLong ? x >> by : (int) x >> by;
                default:
                    return isLong ? x >>> by : (int) x >>> by;
            }
        }

        private int makeRow(int rowKind, int size) {
            if (size < 0) {
                return fail(NEGATIVE_SIZE_ERROR);
            }
            int made = store.newThing(size);
            return made == NONE ? FULL : give(made, rowKind);
        }

        private int useElement(int h, int depth) {
            if (tagAt(depth, 0) == 0) {
                return fail(NULL_ERROR);
            }
            Thing row = store.thing(numberAt(depth, 0));
            int i = (int) numberAt(depth, 1);
            if (!row.has(i)) {
                return fail(ELEMENT_ERROR);
            }
            int way = handles.form(h) - GET + WAY_GET;
            return use(row, i, way, kinds.elementOf(handles.a(h)), depth, 2);
        }

        private int useField(int h, int depth) {
            int member = handles.a(h);
            int way = handles.b(h);
            int cell = members.cellOf(member);
            if (members.isStatic(member)) {
                return use(store.statics(), cell, way, members.kindOf(member), depth, 0);
            }
            if (tagAt(depth, 0) == 0) {
                return fail(NULL_ERROR);
            }
            return use(store.thing(numberAt(depth, 0)), cell, way, members.kindOf(member), depth, 1);
        }

        /** Uses a cell by a WAY; what it takes are this CALL's values from one on. */
        private int use(Thing thing, int i, int way, int cellKind, int depth, int from) {
            long n = numberAt(depth, from);
            int t = tagAt(depth, from);
            if (way == WAY_TRY) {
                boolean isFirst = thing.holds(i, n, t);
                if (isFirst) {
                    thing.change(i, numberAt(depth, from + 1), tagAt(depth, from + 1));
                }
                return give(isFirst ? 1 : 0, 0);
            }
            give(thing.number(i), thing.tag(i));
            if (way == WAY_ADD) {
                thing.change(i, kinds.narrowed(number + n, cellKind), 0);
            } else if (way != WAY_GET) {
                thing.change(i, n, t);
            }
            return way == WAY_SET ? give(0, 0) : CAME;
        }
    }

    /** THE TEXT, the bytes that wait for it, and its WORDS, read one by one. */
    private static final class Words {
        static final int END = 0;
        static final int OPEN = 1;
        static final int CLOSE = 2;
        static final int NUMBER = 3;
        static final int NAME = 4;
        static final int SIGN = 5;
        static final int BAD = 6;

        private static final int NO_WORD = 1;
        private static final int LONG_NAME = 2;
        private static final int OUT_OF_BOUNDS = 3;
        private static final int MOST_LETTERS = 8;
        private static final long LOWEST = 0x8000000000000000L;
        /** By their places: the operations that SIGN_OPERATIONS has. */
        private static final String SIGNS = "+-*/%&|^<=";
        private static final int[] SIGN_OPERATIONS = {0, 1, 2, 3, 4, 5, 6, 7, LESS, EQUAL};

        private final int[] bytes = new int[MOST_BYTES];
        private int length = 0;
        private final int[] fed = new int[FED_BYTES];
        private int at = 0;
        private int word = END;
        private int place = 0;
        /** The FAULT of a BAD word. */
        private int trouble = 0;
        private int operation = 0;
        private long number = 0;
        private int numberKind = I;
        /** A NAME's bytes, the last one lowest. */
        private long name = 0;

        void hold(int from, int four) {
            for (int i = 0; i < 4 && from >= 0 && from + i < FED_BYTES; i++) {
                fed[from + i] = four >>> 24 - 8 * i & 255;
            }
        }

        int append(int n) {
            if (n < 0 || n > FED_BYTES || length + n > MOST_BYTES) {
                return NONE;
            }
            for (int i = 0; i < FED_BYTES; i++) {
                if (i < n && length < MOST_BYTES) {
                    bytes[length] = fed[i];
                    length++;
                }
                fed[i] = 0;
            }
            return length;
        }

        void begin() {
            at = 0;
        }

        void empty() {
            length = 0;
        }

        int word() {
            return word;
        }

        int place() {
            return place;
        }

        int trouble() {
            return trouble;
        }

        int operation() {
            return operation;
        }

        long number() {
            return number;
        }

        int numberKind() {
            return numberKind;
        }

        long name() {
            return name;
        }

        /** Reads the next WORD. */
        int step() {
            skipBlanks();
            place = at;
            int c = byteAt(at);
            if (c == NONE) {
                word = END;
            } else if (isDigit(c) || c == '-' && isDigit(byteAt(at + 1))) {
                word = stepNumber(c == '-');
            } else if (isLetter(c)) {
                word = stepName();
            } else {
                at++;
                word = c == '(' ? OPEN : c == ')' ? CLOSE : stepSign(c);
            }
            return word;
        }

        private int byteAt(int i) {
            return i >= 0 && i < length && i < MOST_BYTES ? bytes[i] : NONE;
        }

        private boolean isDigit(int c) {
            return c >= '0' && c <= '9';
        }

        private boolean isLetter(int c) {
            return c >= 'a' && c <= 'z';
        }

        private void skipBlanks() {
            while (at < length && (bytes[at] == ' ' || bytes[at] == '\n')) {
                at++;
            }
        }

        private int stepSign(int c) {
            int i = SIGNS.indexOf((char) c);
            if (i < 0 || i >= SIGN_OPERATIONS.length) {
                trouble = NO_WORD;
                return BAD;
            }
            operation = SIGN_OPERATIONS[i];
            return SIGN;
        }

        private int stepName() {
            int letters = 0;
            name = 0;
            while (at < length && (bytes[at] >= 'a' && bytes[at] <= 'z' || bytes[at] >= '0' && bytes[at] <= '9')) {
                name = name << 8 | bytes[at];
                letters++;
                at++;
            }
            trouble = LONG_NAME;
            return letters > MOST_LETTERS ? BAD : NAME;
        }

        /** Counts below 0, where there is room for one more. */
        private int stepNumber(boolean isNegative) {
            boolean fits = true;
            long low = 0;
            if (isNegative) {
                at++;
            }
            while (at < length && bytes[at] >= '0' && bytes[at] <= '9') {
                int digit = bytes[at] - '0';
                fits = fits && low >= (LOWEST + digit) / 10;
                low = low * 10 - digit;
                at++;
            }
            fits = fits && (isNegative || low != LOWEST);
            number = isNegative ? low : -low;
            numberKind = I;
            if (at < length && bytes[at] == 'l') {
                numberKind = J;
                at++;
            } else {
                fits = fits && number == (int) number;
            }
            trouble = OUT_OF_BOUNDS;
            return fits ? NUMBER : BAD;
        }
    }

    /**
     * Reads THE TEXT and makes its DEFINITIONS. Handles of parts that were read wait on a stack;
     * NONE for a handle means that a FAULT was found, and the reading ends.
     */
    private static final class Texts {
        private static final int WRONG_WORD = 4;
        private static final int TOO_MANY_OPEN = 5;
        private static final int WRONG_NAME = 6;
        private static final int WRONG_KINDS = 7;
        private static final int NOT_MADE = 8;
        private static final int WRONG_COUNT = 9;

        private static final int MOST_OPEN = 20;
        private static final int MOST_DEFINITIONS = 60;
        private static final int MOST_PARAMETERS = 6;
        private static final int MOST_VARIABLES = 3;
        private static final int SCOPE_ROOM = 16;
        private static final int STACK_ROOM = 200;

        private static final int IF = 0;
        private static final int LET = 1;
        private static final int DO = 2;
        private static final int LOOPING = 3;
        private static final int TRYING = 4;
        private static final int PASSING = 5;
        private static final int FORCING = 6;
        private static final int NULLS = 7;
        private static final int ROWS = 8;
        private static final int SIZES = 9;
        private static final int GETS = 10;
        private static final int SETS = 11;
        private static final int ISES = 12;
        private static final int SAMES = 13;
        private static final int THROWS = 14;
        private static final int CODES = 15;
        private static final int SIGNED = 16;

        private static final long DEF = 0x646566L;
        /** if let do loop try as force null row size get set is same throw code, by their bytes. */
        private static final long[] KEYWORDS = {
            0x6966L, 0x6c6574L, 0x646fL, 0x6c6f6f70L, 0x747279L, 0x6173L, 0x666f726365L, 0x6e756c6cL,
            0x726f77L, 0x73697a65L, 0x676574L, 0x736574L, 0x6973L, 0x73616d65L, 0x7468726f77L, 0x636f6465L};
        /** How many EXPRESSIONS each has that has nothing but a KIND, perhaps, and these. */
        private static final int[] KEYWORD_PARTS = {3, 0, 2, 0, 0, 1, 1, 0, 1, 1, 2, 3, 1, 2, 1, 1, 2};
        /** v z b s c i j o n oz ob os oc oi oj xi xj xo h e k0 .. k11, by their bytes. */
        private static final long[] KIND_NAMES = {
            0x76L, 0x7aL, 0x62L, 0x73L, 0x63L, 0x69L, 0x6aL, 0x6fL, 0x6eL, 0x6f7aL, 0x6f62L, 0x6f73L,
            0x6f63L, 0x6f69L, 0x6f6aL, 0x7869L, 0x786aL, 0x786fL, 0x68L, 0x65L, 0x6b30L, 0x6b31L,
            0x6b32L, 0x6b33L, 0x6b34L, 0x6b35L, 0x6b36L, 0x6b37L, 0x6b38L, 0x6b39L, 0x6b3130L, 0x6b3131L};

        private final Forms forms;
        private final Kinds kinds;
        private final Types types;
        private final Handles handles;
        private final Store store;
        private final Words words;
        private final Row row = new Row();
        private final long[] scopeNames = new long[SCOPE_ROOM];
        private final int[] scopeKinds = new int[SCOPE_ROOM];
        private int scopeSize = 0;
        private final int[] stack = new int[STACK_ROOM];
        /** The names that a let's or a loop's As are to have. */
        private final long[] stackNames = new long[STACK_ROOM];
        private int top = 0;
        private final long[] defNames = new long[MOST_DEFINITIONS];
        private final int[] defHandles = new int[MOST_DEFINITIONS];
        private int defCount = 0;
        private int open = 0;
        private int faultCode = 0;
        private int faultPlace = NONE;

        Texts(Forms forms, Words words) {
            this.forms = forms;
            this.kinds = forms.kinds();
            this.types = forms.types();
            this.handles = forms.handles();
            this.store = forms.store();
            this.words = words;
        }

        int about(int what) {
            switch (what) {
                case 0:
                    return faultCode;
                case 1:
                    return faultPlace;
                case 2:
                    return defCount;
                default:
                    return NONE;
            }
        }

        int handleNamed(long letters) {
            long name = 0;
            for (int shift = 56; shift >= 0; shift -= 8) {
                long letter = letters >>> shift & 255;
                name = letter == 0 ? name : name << 8 | letter;
            }
            int found = definitionOf(name);
            return found == NONE ? NONE : defHandles[found];
        }

        private int definitionOf(long name) {
            for (int i = 0; i < defCount; i++) {
                if (defNames[i] == name) {
                    return i;
                }
            }
            return NONE;
        }

        int readAll() {
            faultCode = 0;
            faultPlace = NONE;
            open = 0;
            top = 0;
            words.begin();
            for (int i = 0; i < MOST_BYTES && faultCode == 0 && advance() != Words.END; i++) {
                int place = words.place();
                int result = readsDef() ? readKind(true) : NONE;
                int target = result != NONE && readsParameters() ? define(result, place) : NONE;
                int body = target == NONE ? NONE : readExpression();
                if (body != NONE && readsClose()) {
                    aimAt(target, passed(AS, body, result, place));
                }
            }
            words.empty();
            return faultCode;
        }

        private void aimAt(int target, int h) {
            if (h != NONE) {
                store.aimAt(target, h);
            }
        }

        /** The first FAULT that is found counts. */
        private int fail(int code, int place) {
            if (faultCode == 0) {
                faultCode = code;
                faultPlace = place;
            }
            return NONE;
        }

        private int failHere(int code) {
            return fail(code, words.place());
        }

        private int advance() {
            int word = words.step();
            if (word == Words.BAD) {
                failHere(words.trouble());
            }
            return word;
        }

        private boolean reads(int word) {
            int found = words.step();
            if (found != word) {
                failHere(found == Words.BAD ? words.trouble() : WRONG_WORD);
            }
            return faultCode == 0;
        }

        /** Counts the ( that was just read. */
        private boolean opens() {
            if (open >= MOST_OPEN) {
                failHere(TOO_MANY_OPEN);
            }
            open++;
            return faultCode == 0;
        }

        private boolean readsOpen() {
            return reads(Words.OPEN) && opens();
        }

        private boolean readsClose() {
            open--;
            return reads(Words.CLOSE);
        }

        /** Reads a KIND (or v, for a RESULT); NONE behind a FAULT. */
        private int readKind(boolean isResult) {
            if (!reads(Words.NAME)) {
                return NONE;
            }
            for (int k = isResult ? V : Z; k < KIND_NAMES.length; k++) {
                if (KIND_NAMES[k] == words.name() && kinds.has(k)) {
                    return k;
                }
            }
            return failHere(WRONG_NAME);
        }

        /** Reads def NAME behind a ( ; the NAME waits where it will be counted. */
        private boolean readsDef() {
            if (words.word() != Words.OPEN) {
                failHere(WRONG_WORD);
                return false;
            }
            if (!opens() || !reads(Words.NAME)) {
                return false;
            }
            if (words.name() != DEF) {
                failHere(WRONG_WORD);
                return false;
            }
            if (!reads(Words.NAME)) {
                return false;
            }
            if (defCount >= MOST_DEFINITIONS || definitionOf(words.name()) != NONE) {
                failHere(WRONG_NAME);
                return false;
            }
            defNames[defCount] = words.name();
            return true;
        }

        private boolean readsParameters() {
            scopeSize = 0;
            if (!readsOpen()) {
                return false;
            }
            for (int i = 0; i <= MOST_PARAMETERS; i++) {
                int word = advance();
                if (word == Words.CLOSE) {
                    open--;
                    return true;
                }
                if (word != Words.OPEN) {
                    failHere(WRONG_WORD);
                }
                if (faultCode != 0 || !opens() || !readsParameter()) {
                    return false;
                }
            }
            return false;
        }

        private boolean readsParameter() {
            if (!reads(Words.NAME)) {
                return false;
            }
            long name = words.name();
            if (scopeSize >= MOST_PARAMETERS || variableOf(name) != NONE) {
                failHere(WRONG_NAME);
                return false;
            }
            int kind = readKind(false);
            if (kind == NONE || !readsClose()) {
                return false;
            }
            scopeNames[scopeSize] = name;
            scopeKinds[scopeSize] = kind;
            scopeSize++;
            return true;
        }

        /** Makes a DEFINITION's HANDLE; answers its TARGET. */
        private int define(int result, int place) {
            int type = scopeType(result, place);
            if (type == NONE) {
                return NONE;
            }
            row.clear();
            int empty = forms.build(EMPTY, 0, type, 0, row);
            int target = empty < 0 ? NONE : store.newTarget(empty);
            int handle = target == NONE ? NONE : forms.build(TARGET, target, 0, 0, row);
            if (handle < 0 || defCount >= MOST_DEFINITIONS) {
                return fail(NOT_MADE, place);
            }
            defHandles[defCount] = handle;
            defCount++;
            return target;
        }

        private int variableOf(long name) {
            for (int i = 0; i < scopeSize && i < SCOPE_ROOM; i++) {
                if (scopeNames[i] == name) {
                    return i;
                }
            }
            return NONE;
        }

        /** Puts n variables ahead of the SCOPE, still without names. */
        private boolean widenScope(int n, int place) {
            if (n < 0 || scopeSize + n > SCOPE_ROOM) {
                fail(NOT_MADE, place);
                return false;
            }
            System.arraycopy(scopeNames, 0, scopeNames, n, scopeSize);
            System.arraycopy(scopeKinds, 0, scopeKinds, n, scopeSize);
            scopeSize += n;
            return true;
        }

        private void nameVariable(int i, long name, int kind) {
            if (i >= 0 && i < SCOPE_ROOM) {
                scopeNames[i] = name;
                scopeKinds[i] = kind;
            }
        }

        private void narrowScope(int n) {
            if (n < 0 || n > scopeSize) {
                return;
            }
            scopeSize -= n;
            System.arraycopy(scopeNames, n, scopeNames, 0, scopeSize);
            System.arraycopy(scopeKinds, n, scopeKinds, 0, scopeSize);
        }

        /** The TYPE of the SCOPE's kinds and a RESULT. */
        private int scopeType(int result, int place) {
            types.begin();
            for (int i = 0; i < scopeSize && i < SCOPE_ROOM; i++) {
                types.with(scopeKinds[i]);
            }
            int type = types.settle(result);
            return type == NONE ? fail(NOT_MADE, place) : type;
        }

        /** A part passed (by AS) or forced (by FORCED) as one of a kind. */
        private int passed(int form, int part, int kind, int place) {
            int from = handles.resultOf(part);
            if (from == kind) {
                return part;
            }
            if (!kinds.allowsResult(from, kind, form == FORCED)) {
                return fail(WRONG_KINDS, place);
            }
            int type = scopeType(kind, place);
            if (type == NONE) {
                return NONE;
            }
            int made = forms.build(form, 0, type, 0, row.single(part));
            return made < 0 ? fail(NOT_MADE, place) : made;
        }

        private int stacked(int i) {
            return i >= 0 && i < top && i < STACK_ROOM ? stack[i] : NONE;
        }

        private boolean push(int part, long name) {
            if (part == NONE || top >= STACK_ROOM) {
                return false;
            }
            stack[top] = part;
            stackNames[top] = name;
            top++;
            return true;
        }

        private int kindAt(int i) {
            return handles.resultOf(stacked(i));
        }

        /** Passes the part at i of the stack, in its stead. */
        private boolean passes(int i, int kind, int place) {
            int part = passed(AS, stacked(i), kind, place);
            if (part == NONE || i < 0 || i >= top || i >= STACK_ROOM) {
                return false;
            }
            stack[i] = part;
            return true;
        }

        /** Makes a HANDLE without PARTS, and applies it to m parts of the stack from base on. */
        private int appliedNew(int form, int a, int b, int base, int m, int place) {
            row.clear();
            // of these forms just CONSTANT has c, and NONE is NULL there
            return applied(forms.build(form, a, b, NONE, row), base, m, place);
        }

        private int applied(int x, int base, int m, int place) {
            if (x < 0) {
                return fail(NOT_MADE, place);
            }
            int type = scopeType(handles.resultOf(x), place);
            if (type == NONE) {
                return NONE;
            }
            int made = forms.build(DROP, m, type, 0, row.single(x));
            for (int i = m - 1; i >= 0 && made >= 0; i--) {
                made = forms.build(FOLD, i, 0, 0, row.pair(made, stacked(base + i)));
            }
            return made < 0 ? fail(NOT_MADE, place) : made;
        }

        private int readExpression() {
            advance();
            return expression();
        }

        /** The EXPRESSION that begins with the WORD that was just read. */
        private int expression() {
            int place = words.place();
            switch (words.word()) {
                case Words.NUMBER:
                    row.clear();
                    return applied(forms.build(CONSTANT, words.numberKind(), 0, words.number(), row), 0, 0, place);
                case Words.NAME:
                    return variable(place);
                case Words.OPEN:
                    return opens() ? compound(place) : NONE;
                default:
                    return failHere(WRONG_WORD);
            }
        }

        private int variable(int place) {
            int i = variableOf(words.name());
            if (i == NONE || i >= SCOPE_ROOM) {
                return failHere(WRONG_NAME);
            }
            int kind = scopeKinds[i];
            row.clear();
            int self = forms.build(SELF, kind, 0, 0, row);
            if (self < 0) {
                return fail(NOT_MADE, place);
            }
            int type = scopeType(kind, place);
            if (type == NONE) {
                return NONE;
            }
            int made = forms.build(MOVE, 0, type, 0, row.pair(self, i));
            return made < 0 ? fail(NOT_MADE, place) : made;
        }

        private int compound(int place) {
            int base = top;
            int made = NONE;
            int word = advance();
            if (word == Words.SIGN) {
                made = simple(SIGNED, words.operation(), place);
            } else if (word == Words.NAME) {
                made = keyword(place, keywordOf(words.name()));
            } else {
                failHere(WRONG_WORD);
            }
            top = base;
            return made;
        }

        private int keywordOf(long name) {
            for (int i = 0; i < KEYWORDS.length; i++) {
                if (KEYWORDS[i] == name) {
                    return i;
                }
            }
            return NONE;
        }

        private int keyword(int place, int keyword) {
            switch (keyword) {
                case NONE:
                    return called(definitionOf(words.name()), place);
                case LET:
                    return let(place);
                case LOOPING:
                    return loop(place);
                case TRYING:
                    return attempt(place);
                default:
                    return simple(keyword, 0, place);
            }
        }

        private boolean readsParts(int n) {
            for (int i = 0; i < n; i++) {
                if (!push(readExpression(), 0)) {
                    return false;
                }
            }
            return true;
        }

        /** What has a KIND, perhaps, then EXPRESSIONS alone. */
        private int simple(int keyword, int operation, int place) {
            int base = top;
            int told = operation;
            if (hasKind(keyword)) {
                told = readKind(keyword == THROWS);
            }
            if (told == NONE || keyword < 0 || keyword >= KEYWORD_PARTS.length) {
                return NONE;
            }
            if (!readsParts(KEYWORD_PARTS[keyword]) || !readsClose()) {
                return NONE;
            }
            if (!hasRightKinds(keyword, told, base)) {
                return fail(WRONG_KINDS, place);
            }
            return keyword == IF ? guarded(base, place) : finished(keyword, told, base, place);
        }

        private boolean hasKind(int keyword) {
            switch (keyword) {
                case PASSING:
                case FORCING:
                case NULLS:
                case ROWS:
                case ISES:
                case THROWS:
                    return true;
                default:
                    return false;
            }
        }

        private int finished(int keyword, int told, int base, int place) {
            int kind = kindAt(base);
            switch (keyword) {
                case DO:
                    return passes(base, V, place) ? folded(stacked(base + 1), stacked(base), place) : NONE;
                case PASSING:
                    return passed(AS, stacked(base), told, place);
                case FORCING:
                    return passed(FORCED, stacked(base), told, place);
                case NULLS:
                    return appliedNew(CONSTANT, told, 0, base, 0, place);
                case ROWS:
                    return passes(base, I, place) ? appliedNew(NEW_ROW, told, 0, base, 1, place) : NONE;
                case SIZES:
                    return appliedNew(SIZE, kind, 0, base, 1, place);
                case GETS:
                    return passes(base + 1, I, place) ? appliedNew(GET, kind, 0, base, 2, place) : NONE;
                case SETS:
                    boolean set = passes(base + 1, I, place) && passes(base + 2, kinds.elementOf(kind), place);
                    return set ? appliedNew(SET, kind, 0, base, 3, place) : NONE;
                case ISES:
                    return passes(base, O, place) ? appliedNew(IS, told, 0, base, 1, place) : NONE;
                case SAMES:
                    boolean same = passes(base, O, place) && passes(base + 1, O, place);
                    return same ? appliedNew(SAME, 0, 0, base, 2, place) : NONE;
                case THROWS:
                    return appliedNew(THROW, told, kind, base, 1, place);
                case CODES:
                    return passes(base, E, place) ? appliedNew(CODE, 0, 0, base, 1, place) : NONE;
                default:
                    int wide = isLong(kind) || isLong(kindAt(base + 1)) ? J : I;
                    boolean both = passes(base, wide, place) && passes(base + 1, wide, place);
                    return both ? appliedNew(OPERATION, told, wide, base, 2, place) : NONE;
            }
        }

        /** What must be of some kind, and isn't passed. */
        private boolean hasRightKinds(int keyword, int told, int base) {
            switch (keyword) {
                case NULLS:
                case ISES:
                    return kinds.isReference(told);
                case ROWS:
                    return kinds.isRow(told);
                case SIZES:
                case GETS:
                case SETS:
                    return kinds.isRow(kindAt(base));
                case THROWS:
                    return kinds.isBelow(kindAt(base), E);
                default:
                    return true;
            }
        }

        private boolean isLong(int kind) {
            return kind == J || kind == BOX_J;
        }

        private int guarded(int base, int place) {
            if (!passes(base, Z, place)) {
                return NONE;
            }
            int first = kindAt(base + 1);
            int second = kindAt(base + 2);
            boolean asFirst = first == second || kinds.allows(second, first, false);
            if (!asFirst && !kinds.allows(first, second, false)) {
                return fail(WRONG_KINDS, place);
            }
            if (!passes(asFirst ? base + 2 : base + 1, asFirst ? first : second, place)) {
                return NONE;
            }
            row.pair(stacked(base), stacked(base + 1));
            row.append(stacked(base + 2));
            int made = forms.build(GUARD, 0, 0, 0, row);
            return made < 0 ? fail(NOT_MADE, place) : made;
        }

        private int folded(int body, int giver, int place) {
            int made = forms.build(FOLD, 0, 0, 0, row.pair(body, giver));
            return made < 0 ? fail(NOT_MADE, place) : made;
        }

        /** Reads NAME A ) behind the ( of a variable; A waits on the stack, with the NAME. */
        private boolean readsVariable(int place) {
            if (!reads(Words.NAME)) {
                return false;
            }
            long name = words.name();
            int part = readExpression();
            if (part == NONE) {
                return false;
            }
            if (handles.resultOf(part) == V) {
                fail(WRONG_KINDS, place);
                return false;
            }
            return push(part, name) && readsClose();
        }

        /** Puts the n variables that wait on the stack ahead of the SCOPE. */
        private boolean enters(int base, int n, int place) {
            if (base < 0 || n < 0 || base + n > top || !widenScope(n, place)) {
                return false;
            }
            for (int i = 0; i < n && base + i < STACK_ROOM; i++) {
                nameVariable(i, stackNames[base + i], kindAt(base + i));
            }
            return true;
        }

        private int let(int place) {
            int base = top;
            if (!readsOpen() || !readsVariable(place) || !enters(base, 1, place)) {
                return NONE;
            }
            int body = readExpression();
            narrowScope(1);
            if (body == NONE || !readsClose()) {
                return NONE;
            }
            return folded(body, stacked(base), place);
        }

        private int attempt(int place) {
            int base = top;
            if (!readsParts(1) || !readsOpen() || !reads(Words.NAME)) {
                return NONE;
            }
            long name = words.name();
            if (!readsClose() || !widenScope(1, place)) {
                return NONE;
            }
            nameVariable(0, name, E);
            if (!readsParts(1) || !readsClose() || !passes(base + 1, kindAt(base), place)) {
                return NONE;
            }
            narrowScope(1);
            int made = forms.build(CATCH, E, 0, 0, row.pair(stacked(base), stacked(base + 1)));
            return made < 0 ? fail(NOT_MADE, place) : made;
        }

        private int loop(int place) {
            int base = top;
            int n = readVariables(place);
            if (n == 0 || !enters(base, n, place)) {
                return NONE;
            }
            if (!readsOpen() || !readsParts(n) || !readsClose() || !readsParts(2) || !readsClose()) {
                return NONE;
            }
            for (int i = 0; i < n; i++) {
                if (!passes(base + n + i, kindAt(base + i), place)) {
                    return NONE;
                }
            }
            if (!passes(base + 2 * n, Z, place)) {
                return NONE;
            }
            narrowScope(n);
            int type = scopeType(kindAt(base + 2 * n + 1), place);
            if (type == NONE) {
                return NONE;
            }
            layClauses(base, n);
            int made = forms.build(LOOP, 0, type, 0, row);
            return made < 0 ? fail(NOT_MADE, place) : made;
        }

        /** Reads a loop's variables; answers how many, 0 behind a FAULT. */
        private int readVariables(int place) {
            if (!readsOpen()) {
                return 0;
            }
            for (int n = 0; n <= MOST_VARIABLES; n++) {
                int word = advance();
                if (word == Words.CLOSE && n > 0) {
                    open--;
                    return n;
                }
                if (word != Words.OPEN || n == MOST_VARIABLES) {
                    failHere(WRONG_WORD);
                }
                if (faultCode != 0 || !opens() || !readsVariable(place)) {
                    return 0;
                }
            }
            return 0;
        }

        private void layClauses(int base, int n) {
            row.clear();
            for (int i = 0; i < n; i++) {
                row.append(stacked(base + i));
                row.append(stacked(base + n + i));
                row.append(NONE);
                row.append(NONE);
            }
            row.append(NONE);
            row.append(NONE);
            row.append(stacked(base + 2 * n));
            row.append(stacked(base + 2 * n + 1));
        }

        private int called(int definition, int place) {
            if (definition < 0 || definition >= defCount) {
                return failHere(WRONG_NAME);
            }
            int base = top;
            int handle = defHandles[definition];
            int parameters = handles.placesOf(handle);
            int count = 0;
            for (int i = 0; i < MOST_BYTES && advance() != Words.CLOSE; i++) {
                int part = expression();
                if (part == NONE || count < MOST_PARAMETERS && !push(part, 0)) {
                    return NONE;
                }
                count++;
            }
            open--;
            if (count != parameters) {
                return fail(WRONG_COUNT, place);
            }
            for (int i = 0; i < parameters; i++) {
                if (!passes(base + i, handles.place(handle, i), place)) {
                    return NONE;
                }
            }
            return applied(handle, base, parameters, place);
        }
    }
}
