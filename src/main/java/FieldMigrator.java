/** A registry of schemas, with its forms and its movers of data. */
public final class FieldMigrator {
    private static final int SCHEMAS = 4;
    private static final int VERSIONS = 24;
    private static final int NAMES = 26;
    private static final int FORMS = 8;
    private static final int ROWS = 20;
    private static final int MOVERS = 8;
    // A step leads to each version but 0, and makes two fields at most.
    private static final int FIELDS = 2 * (VERSIONS - 1);
    // A move costs a call, and an object is promised for 512 calls only.
    private static final int MOVES = 512;

    private static final int NONE = -1;

    private static final int NUMBER = 0;
    private static final int FLAG = 1;
    private static final int TENS = 2;

    private static final int GREATEST_NUMBER = 9999;
    private static final int GREATEST_FLAG = 1;
    private static final int GREATEST_TENS = 999;

    private static final int LEAST_FACTOR = 2;
    private static final int GREATEST_FACTOR = 100;

    private static final int ADD = 0;
    private static final int RENAME = 1;
    private static final int TURN = 2;
    private static final int SPLIT = 3;
    private static final int JOIN = 4;
    private static final int DROP = 5;
    private static final int NEED = 6;

    // A side of a step has two fields at most; where it has fewer, NONE stands for the rest.
    private static final int PAIR = 2;
    private static final int FRONT = 0;
    private static final int BEHIND = 1;

    private final Schema[] schemas;
    private final Form[] forms;
    private final Row[] rows;
    private final Mover[] movers;
    private final Move[] moves;
    // The one copy in which rows are seen at other versions, so that seeing makes no object.
    private final State seen;
    private int schemaCount;
    private int formCount;
    private int rowCount;
    private int moverCount;
    private int moveCount;

    public FieldMigrator() {
        schemas = new Schema[SCHEMAS];
        forms = new Form[FORMS];
        rows = new Row[ROWS];
        movers = new Mover[MOVERS];
        moves = new Move[MOVES];
        seen = new State();
    }

    // ---- schemas; each of the next six makes a version, the head then.

    public int schema() throws IllegalStateException {
        if (schemaCount >= SCHEMAS) {
            throw new IllegalStateException("there are 4 schemas");
        }
        int number = schemaCount;
        schemas[number] = new Schema();
        schemaCount++;
        return number;
    }

    public int add(int schema, int name, int kind, int value, boolean isNeeded)
            throws IndexOutOfBoundsException, IllegalArgumentException, IllegalStateException {
        Schema owner = schemaAt(schema);
        if (!isName(name) || !isValue(kind, value)) {
            throw new IllegalArgumentException("name, kind or value is out of range");
        }
        if (owner.fieldNamed(owner.head, name) != NONE || owner.isFull()) {
            throw new IllegalStateException("the head has the name, or there are 24 versions");
        }
        int made = owner.makeField(kind, value);
        owner.extend(new Step(ADD, NONE, NONE, made, NONE, 0));
        owner.place(made, name, isNeeded);
        return made;
    }

    public int rename(int schema, int name, int other)
            throws IndexOutOfBoundsException, IllegalArgumentException, IllegalStateException {
        Schema owner = schemaAt(schema);
        int field = fieldOfHead(owner, name);
        if (!isName(other)) {
            throw new IllegalArgumentException("other is out of range");
        }
        if (owner.fieldNamed(owner.head, other) != NONE || owner.isFull()) {
            throw new IllegalStateException("the head has the other name, or there are 24 versions");
        }
        boolean isNeeded = owner.isNeeded(owner.head, field);
        owner.extend(new Step(RENAME, field, NONE, field, NONE, 0));
        owner.place(field, other, isNeeded);
        return owner.head;
    }

    public int turn(int schema, int name, int kind)
            throws IndexOutOfBoundsException, IllegalArgumentException, IllegalStateException {
        Schema owner = schemaAt(schema);
        int field = fieldOfHead(owner, name);
        if (!isKind(kind)) {
            throw new IllegalArgumentException("kind is out of range");
        }
        int former = owner.kindOf(field);
        if (former == kind || owner.isWaiting(field) || owner.isFull()) {
            throw new IllegalStateException("the kind is the same, the drop waits, or there are 24 versions");
        }
        boolean isNeeded = owner.isNeeded(owner.head, field);
        int made = owner.makeField(kind, turned(owner.defaultOf(field), former, kind));
        owner.extend(new Step(TURN, field, NONE, made, NONE, 0));
        owner.place(made, name, isNeeded);
        return made;
    }

    public int split(int schema, int name, int first, int second, int divisor)
            throws IndexOutOfBoundsException, IllegalArgumentException, IllegalStateException {
        Schema owner = schemaAt(schema);
        int field = fieldOfHead(owner, name);
        if (!isName(first) || !isName(second) || !isFactor(divisor) || first == second) {
            throw new IllegalArgumentException("first, second or divisor is out of range, or both are the same");
        }
        boolean isTaken = owner.isTakenByOther(first, field, field) || owner.isTakenByOther(second, field, field);
        if (!owner.isFreeNumber(field) || isTaken || owner.isFull()) {
            throw new IllegalStateException("no number, a waiting drop, a name taken, or 24 versions");
        }
        boolean isNeeded = owner.isNeeded(owner.head, field);
        int whole = owner.defaultOf(field);
        int upper = owner.makeField(NUMBER, quotient(whole, divisor));
        int lower = owner.makeField(NUMBER, remainder(whole, divisor));
        owner.extend(new Step(SPLIT, field, NONE, upper, lower, divisor));
        owner.place(upper, first, isNeeded);
        owner.place(lower, second, isNeeded);
        return upper;
    }

    public int join(int schema, int first, int second, int name, int factor)
            throws IndexOutOfBoundsException, IllegalArgumentException, IllegalStateException {
        Schema owner = schemaAt(schema);
        int upper = fieldOfHead(owner, first);
        int lower = fieldOfHead(owner, second);
        if (!isName(name) || !isFactor(factor) || first == second) {
            throw new IllegalArgumentException("name or factor is out of range, or both fields are the same");
        }
        boolean isFree = owner.isFreeNumber(upper) && owner.isFreeNumber(lower);
        if (!isFree || owner.isTakenByOther(name, upper, lower) || owner.isFull()) {
            throw new IllegalStateException("no number, a waiting drop, a name taken, or 24 versions");
        }
        boolean isNeeded = owner.isNeeded(owner.head, upper) || owner.isNeeded(owner.head, lower);
        int whole = combined(owner.defaultOf(upper), owner.defaultOf(lower), factor);
        int made = owner.makeField(NUMBER, whole);
        owner.extend(new Step(JOIN, upper, lower, made, NONE, factor));
        owner.place(made, name, isNeeded);
        return made;
    }

    public boolean toggleNeed(int schema, int name) throws IndexOutOfBoundsException, IllegalStateException {
        Schema owner = schemaAt(schema);
        int field = fieldOfHead(owner, name);
        if (owner.isFull()) {
            throw new IllegalStateException("there are 24 versions");
        }
        boolean isNeeded = !owner.isNeeded(owner.head, field);
        owner.extend(new Step(NEED, field, NONE, field, NONE, 0));
        owner.place(field, name, isNeeded);
        return isNeeded;
    }

    public boolean drop(int schema, int name) throws IndexOutOfBoundsException, IllegalStateException {
        Schema owner = schemaAt(schema);
        int field = fieldOfHead(owner, name);
        if (owner.isWaiting(field) || owner.isFull()) {
            throw new IllegalStateException("the drop waits, or there are 24 versions");
        }
        // Looking at all waiting drops here would carry out others too early.
        if (contains(heldUpOf(owner), field)) {
            owner.letWait(field);
            return false;
        }
        owner.takeOff(field);
        return true;
    }

    public int head(int schema) throws IndexOutOfBoundsException {
        Schema owner = schemaAt(schema);
        return 100 * owner.head + owner.waitingCount;
    }

    public int field(int schema, int version, int name) throws IndexOutOfBoundsException, IllegalArgumentException {
        Schema owner = schemaAt(schema);
        if (!owner.isVersion(version)) {
            throw new IndexOutOfBoundsException("no such version");
        }
        if (!isName(name)) {
            throw new IllegalArgumentException("name is out of range");
        }
        int found = owner.fieldNamed(version, name);
        if (found == NONE) {
            return NONE;
        }
        return 10 * found + (owner.isNeeded(version, found) ? 3 : 0) + owner.kindOf(found);
    }

    public char text(int schema, int version, int place) throws IndexOutOfBoundsException {
        Schema owner = schemaAt(schema);
        Step told = owner.stepTo(version);
        if (told == null) {
            throw new IndexOutOfBoundsException("no such version");
        }
        StringBuilder words = new StringBuilder();
        words.append(wordOf(told.kind));
        tellNames(words, owner, version - 1, told.front);
        words.append('>');
        tellNames(words, owner, version, told.behind);
        if (place < 0 || place >= words.length()) {
            throw new IndexOutOfBoundsException("no such place");
        }
        return words.charAt(place);
    }

    // ---- forms.

    public int form(int schema) throws IndexOutOfBoundsException, IllegalStateException {
        Schema owner = schemaAt(schema);
        if (formCount >= FORMS) {
            throw new IllegalStateException("there are 8 forms");
        }
        int number = formCount;
        forms[number] = new Form(owner);
        formCount++;
        return number;
    }

    public int take(int form, int name, boolean writes) throws IndexOutOfBoundsException, IllegalStateException {
        Form taker = formAt(form);
        int field = taker.owner.fieldNamed(taker.version, name);
        if (field == NONE) {
            throw new IndexOutOfBoundsException("no such field");
        }
        long traces = taker.owner.tracesOf(bit(field), taker.version);
        if (!taker.isAlive || traces == 0 || (traces & taker.owner.allWaiting()) != 0) {
            throw new IllegalStateException("the form is retired, or the field is dropped or waits for it");
        }
        taker.held |= bit(field);
        taker.writable = writes ? taker.writable | bit(field) : taker.writable & ~bit(field);
        return Long.bitCount(taker.held);
    }

    public int letGo(int form, int name) throws IndexOutOfBoundsException {
        Form holder = formAt(form);
        int field = heldField(holder, name);
        holder.held &= ~bit(field);
        holder.writable &= ~bit(field);
        return holder.owner.takeOffWaiting(heldUpOf(holder.owner));
    }

    public int retire(int form) throws IndexOutOfBoundsException, IllegalStateException {
        Form retired = formAt(form);
        if (!retired.isAlive) {
            throw new IllegalStateException("the form is retired");
        }
        retired.isAlive = false;
        retired.held = 0;
        retired.writable = 0;
        return retired.owner.takeOffWaiting(heldUpOf(retired.owner));
    }

    public int renew(int form) throws IndexOutOfBoundsException, IllegalStateException {
        Form renewed = formAt(form);
        if (!renewed.isAlive) {
            throw new IllegalStateException("the form is retired");
        }
        renewed.held = renewed.owner.tracesOf(renewed.held, renewed.version);
        renewed.writable = renewed.owner.tracesOf(renewed.writable, renewed.version);
        renewed.version = renewed.owner.head;
        renewed.owner.takeOffWaiting(heldUpOf(renewed.owner));
        return Long.bitCount(renewed.held);
    }

    public int read(int form, int row, int name) throws IndexOutOfBoundsException, IllegalArgumentException {
        Form reader = formAt(form);
        Row source = rowAt(row);
        int field = heldField(reader, name);
        if (source.owner != reader.owner) {
            throw new IllegalArgumentException("the row is of another schema");
        }
        see(source, reader.version);
        return seen.valueOf(field);
    }

    public int write(int form, int row, int name, int value)
            throws IndexOutOfBoundsException, IllegalArgumentException, IllegalStateException {
        Form writer = formAt(form);
        Row written = rowAt(row);
        int field = heldField(writer, name);
        if (written.owner != writer.owner || !isValue(writer.owner.kindOf(field), value)) {
            throw new IllegalArgumentException("the row is of another schema, or value is out of range");
        }
        if (!contains(writer.writable, field)) {
            throw new IllegalStateException("the form may not write the field");
        }
        see(written, writer.version);
        int before = seen.valueOf(field);
        seen.put(field, value);
        written.owner.bring(seen, written.state.version);
        written.state.copyFrom(seen);
        written.lastMove = NONE;
        return before;
    }

    // ---- rows.

    public int row(int schema, int version) throws IndexOutOfBoundsException, IllegalStateException {
        Schema owner = schemaAt(schema);
        if (!owner.isVersion(version)) {
            throw new IndexOutOfBoundsException("no such version");
        }
        if (rowCount >= ROWS) {
            throw new IllegalStateException("there are 20 rows");
        }
        int number = rowCount;
        Row made = new Row(owner);
        made.state.version = version;
        for (int name = 0; name < NAMES; name++) {
            int field = owner.fieldNamed(version, name);
            if (field != NONE && owner.isNeeded(version, field)) {
                made.state.put(field, owner.defaultOf(field));
            }
        }
        rows[number] = made;
        rowCount++;
        return number;
    }

    public int set(int row, int name, int value) throws IndexOutOfBoundsException, IllegalArgumentException {
        Row changed = rowAt(row);
        int field = fieldAt(changed.owner, changed.state.version, name);
        boolean isGone = value == NONE && !changed.owner.isNeeded(changed.state.version, field);
        if (!isGone && !isValue(changed.owner.kindOf(field), value)) {
            throw new IllegalArgumentException("value is out of range");
        }
        int before = changed.state.valueOf(field);
        changed.state.put(field, value);
        changed.lastMove = NONE;
        return before;
    }

    public int value(int row, int version, int name) throws IndexOutOfBoundsException {
        Row source = rowAt(row);
        int field = fieldAt(source.owner, version, name);
        see(source, version);
        return seen.valueOf(field);
    }

    public int replayed(int row, int name) throws IndexOutOfBoundsException {
        Row source = rowAt(row);
        int field = fieldAt(source.owner, source.state.version, name);
        // Versions and their steps never change once they are made, so that doing again
        // all that was done to the row can only lead to the state that it is in.
        return source.state.valueOf(field);
    }

    public int standing(int row) throws IndexOutOfBoundsException {
        Row told = rowAt(row);
        return 10000 * told.state.version + 100 * told.state.boxEntries() + told.state.losses;
    }

    // ---- movers.

    public int mover(int schema, int target) throws IndexOutOfBoundsException, IllegalStateException {
        Schema owner = schemaAt(schema);
        if (!owner.isVersion(target)) {
            throw new IndexOutOfBoundsException("no such version");
        }
        if (moverCount >= MOVERS) {
            throw new IllegalStateException("there are 8 movers");
        }
        int number = moverCount;
        movers[number] = new Mover(owner, target);
        moverCount++;
        return number;
    }

    public int step(int mover) throws IndexOutOfBoundsException, IllegalStateException {
        Mover stepping = moverAt(mover);
        int number = farthestRow(stepping);
        Row moved = number >= 0 && number < rows.length ? rows[number] : null;
        if (moved == null || moveCount >= MOVES) {
            throw new IllegalStateException("all rows are at the target");
        }
        Move made = new Move(number, stepping.lastMove, moved.lastMove);
        made.before.copyFrom(moved.state);
        moves[moveCount] = made;
        moved.owner.carry(moved.state, moved.state.version < stepping.target);
        stepping.lastMove = moveCount;
        moved.lastMove = moveCount;
        moveCount++;
        return number;
    }

    public int undo(int mover) throws IndexOutOfBoundsException, IllegalStateException {
        Mover undoing = moverAt(mover);
        Move last = moveAt(undoing.lastMove);
        if (last == null) {
            throw new IllegalStateException("there is no step that is not undone");
        }
        Row moved = rowAt(last.row);
        if (moved.lastMove != undoing.lastMove) {
            throw new IllegalStateException("the row was changed since the step");
        }
        moved.state.copyFrom(last.before);
        moved.lastMove = last.earlierOfRow;
        undoing.lastMove = last.earlierOfMover;
        return last.row;
    }

    // ---- finding what a call names.

    private Schema schemaAt(int number) {
        Schema found = number >= 0 && number < schemas.length ? schemas[number] : null;
        if (found == null) {
            throw new IndexOutOfBoundsException("no such schema");
        }
        return found;
    }

    private Form formAt(int number) {
        Form found = number >= 0 && number < forms.length ? forms[number] : null;
        if (found == null) {
            throw new IndexOutOfBoundsException("no such form");
        }
        return found;
    }

    private Row rowAt(int number) {
        Row found = number >= 0 && number < rows.length ? rows[number] : null;
        if (found == null) {
            throw new IndexOutOfBoundsException("no such row");
        }
        return found;
    }

    private Mover moverAt(int number) {
        Mover found = number >= 0 && number < movers.length ? movers[number] : null;
        if (found == null) {
            throw new IndexOutOfBoundsException("no such mover");
        }
        return found;
    }

    private Move moveAt(int number) {
        return number >= 0 && number < moves.length ? moves[number] : null;
    }

    private static int fieldAt(Schema owner, int version, int name) {
        int found = owner.fieldNamed(version, name);
        if (found == NONE) {
            throw new IndexOutOfBoundsException("no such version or field");
        }
        return found;
    }

    private static int fieldOfHead(Schema owner, int name) {
        return fieldAt(owner, owner.head, name);
    }

    private static int heldField(Form holder, int name) {
        int found = holder.owner.fieldNamed(holder.version, name);
        if (found == NONE || !contains(holder.held, found)) {
            throw new IndexOutOfBoundsException("the form holds no such field");
        }
        return found;
    }

    // ---- what several calls share.

    private long heldUpOf(Schema owner) {
        long all = 0;
        for (int i = 0; i < forms.length; i++) {
            Form holder = forms[i];
            if (holder != null && holder.isAlive && holder.owner == owner) {
                all |= owner.tracesOf(holder.held, holder.version);
            }
        }
        return all;
    }

    private void see(Row row, int version) {
        seen.copyFrom(row.state);
        row.owner.bring(seen, version);
    }

    private int farthestRow(Mover mover) {
        int farthest = NONE;
        int greatest = 0;
        for (int i = 0; i < rows.length; i++) {
            Row other = rows[i];
            if (other != null && other.owner == mover.owner) {
                int difference = Math.abs(other.state.version - mover.target);
                if (difference > greatest) {
                    greatest = difference;
                    farthest = i;
                }
            }
        }
        return farthest;
    }

    private static void tellNames(StringBuilder words, Schema owner, int version, int[] fields) {
        for (int i = 0; i < fields.length; i++) {
            if (fields[i] != NONE) {
                words.append(' ');
                words.append((char) ('a' + owner.nameOf(version, fields[i])));
            }
        }
    }

    private static String wordOf(int stepKind) {
        switch (stepKind) {
            case ADD:
                return "add";
            case RENAME:
                return "rename";
            case TURN:
                return "turn";
            case SPLIT:
                return "split";
            case JOIN:
                return "join";
            case DROP:
                return "drop";
            default:
                return "need";
        }
    }

    private static boolean isName(int name) {
        return name >= 0 && name < NAMES;
    }

    private static boolean isKind(int kind) {
        return kind >= NUMBER && kind <= TENS;
    }

    private static boolean isFactor(int factor) {
        return factor >= LEAST_FACTOR && factor <= GREATEST_FACTOR;
    }

    private static boolean isValue(int kind, int value) {
        return isKind(kind) && value >= 0 && value <= greatestOf(kind);
    }

    private static int greatestOf(int kind) {
        if (kind == FLAG) {
            return GREATEST_FLAG;
        }
        return kind == TENS ? GREATEST_TENS : GREATEST_NUMBER;
    }

    private static long bit(int field) {
        return 1L << field;
    }

    private static boolean contains(long fields, int field) {
        return (fields & bit(field)) != 0;
    }

    private static int turned(int value, int from, int to) {
        if (value == NONE) {
            return NONE;
        }
        if (to == FLAG) {
            return value > 0 ? 1 : 0;
        }
        if (from == NUMBER && to == TENS) {
            return value / 10;
        }
        return from == TENS && to == NUMBER ? 10 * value : value;
    }

    private static int quotient(int whole, int divisor) {
        return whole == NONE || divisor <= 0 ? NONE : whole / divisor;
    }

    private static int remainder(int whole, int divisor) {
        return whole == NONE || divisor <= 0 ? NONE : whole % divisor;
    }

    private static int combined(int upper, int lower, int factor) {
        return upper == NONE || lower == NONE ? NONE : Math.min(GREATEST_NUMBER, factor * upper + lower);
    }

    /** The versions of a schema, and the steps by which rows go from one to another. */
    private static final class Schema {
        int head;
        int waitingCount;
        private int fieldCount;
        private final int[] kinds = new int[FIELDS];
        private final int[] defaults = new int[FIELDS];
        private final int[][] named = new int[VERSIONS][NAMES];
        private final long[] needed = new long[VERSIONS];
        // A step stands at the version to which it leads up.
        private final Step[] steps = new Step[VERSIONS];
        private final int[] waiting = new int[FIELDS];
        private final int[] left = new int[PAIR];
        private final int[] reached = new int[PAIR];
        private final int[] kept = new int[PAIR];
        private final int[] back = new int[PAIR];

        Schema() {
            for (int name = 0; name < NAMES; name++) {
                named[0][name] = NONE;
            }
        }

        boolean isVersion(int version) {
            return version >= 0 && version <= head && version < VERSIONS;
        }

        boolean isFull() {
            return head >= VERSIONS - 1;
        }

        private boolean isField(int field) {
            return field >= 0 && field < fieldCount && field < FIELDS;
        }

        int fieldNamed(int version, int name) {
            return isVersion(version) && isName(name) ? named[version][name] : NONE;
        }

        int nameOf(int version, int field) {
            for (int name = 0; name < NAMES; name++) {
                if (fieldNamed(version, name) == field) {
                    return name;
                }
            }
            return NONE;
        }

        int kindOf(int field) {
            return isField(field) ? kinds[field] : NUMBER;
        }

        int defaultOf(int field) {
            return isField(field) ? defaults[field] : NONE;
        }

        boolean isNeeded(int version, int field) {
            return isVersion(version) && isField(field) && contains(needed[version], field);
        }

        Step stepTo(int version) {
            return isVersion(version) ? steps[version] : null;
        }

        boolean isTakenByOther(int name, int field, int second) {
            int found = fieldNamed(head, name);
            return found != NONE && found != field && found != second;
        }

        boolean isFreeNumber(int field) {
            return kindOf(field) == NUMBER && !isWaiting(field);
        }

        int makeField(int kind, int value) {
            int number = fieldCount;
            if (number >= FIELDS) {
                return NONE;
            }
            kinds[number] = kind;
            defaults[number] = value;
            fieldCount++;
            return number;
        }

        /** Makes the next version: that of the head without the fields in front of the step. */
        void extend(Step step) {
            if (isFull() || head < 0) {
                return;
            }
            int next = head + 1;
            for (int name = 0; name < NAMES; name++) {
                int field = named[head][name];
                named[next][name] = step.isInFront(field) ? NONE : field;
            }
            needed[next] = needed[head] & ~step.frontFields();
            steps[next] = step;
            head = next;
        }

        void place(int field, int name, boolean isNeeded) {
            if (isVersion(head) && isName(name) && isField(field)) {
                named[head][name] = field;
                needed[head] |= isNeeded ? bit(field) : 0;
            }
        }

        // ---- drops.

        boolean isWaiting(int field) {
            return contains(allWaiting(), field);
        }

        long allWaiting() {
            long all = 0;
            for (int i = 0; i < waitingCount && i < FIELDS; i++) {
                all |= bit(waiting[i]);
            }
            return all;
        }

        void letWait(int field) {
            if (waitingCount < FIELDS) {
                waiting[waitingCount] = field;
                waitingCount++;
            }
        }

        void takeOff(int field) {
            extend(new Step(DROP, field, NONE, NONE, NONE, 0));
        }

        int takeOffWaiting(long heldUp) {
            int asked = waitingCount;
            waitingCount = 0;
            for (int i = 0; i < asked && i < FIELDS; i++) {
                int field = waiting[i];
                if (contains(heldUp, field) || isFull()) {
                    letWait(field);
                } else {
                    takeOff(field);
                }
            }
            return asked - waitingCount;
        }

        long tracesOf(long fields, int version) {
            long traces = fields;
            for (int next = version + 1; next <= head; next++) {
                Step step = stepTo(next);
                if (step != null && (traces & step.frontFields()) != 0) {
                    traces = traces & ~step.frontFields() | step.behindFields();
                }
            }
            return traces;
        }

        // ---- rows.

        void bring(State state, int version) {
            for (int i = 0; i < VERSIONS && state.version < version; i++) {
                carry(state, true);
            }
            for (int i = 0; i < VERSIONS && state.version > version; i++) {
                carry(state, false);
            }
        }

        void carry(State state, boolean isUp) {
            int behind = isUp ? state.version + 1 : state.version;
            Step step = stepTo(behind);
            if (step == null) {
                return;
            }
            state.version = isUp ? behind : behind - 1;
            if (step.kind == RENAME) {
                return;
            }
            int[] from = isUp ? step.front : step.behind;
            int[] to = isUp ? step.behind : step.front;
            for (int i = 0; i < PAIR; i++) {
                left[i] = state.valueOf(from[i]);
            }
            tell(behind, isUp, left, reached);
            if (state.takeOut(behind, isUp ? BEHIND : FRONT, kept)) {
                tell(behind, !isUp, kept, back);
                if (isSame(back, left)) {
                    reached[0] = kept[0];
                    reached[1] = kept[1];
                } else {
                    state.losses++;
                }
            }
            tell(behind, !isUp, reached, back);
            if (!isSame(back, left)) {
                state.putAway(behind, isUp ? FRONT : BEHIND, left);
            }
            for (int i = 0; i < PAIR; i++) {
                state.put(to[i], reached[i]);
            }
        }

        private static boolean isSame(int[] some, int[] others) {
            return some[0] == others[0] && some[1] == others[1];
        }

        /** What the way up or down over the step to the version behind tells of the given values. */
        private void tell(int behind, boolean isUp, int[] given, int[] told) {
            Step step = stepTo(behind);
            if (step == null) {
                return;
            }
            tellAlone(step, isUp, given, told);
            int[] to = isUp ? step.behind : step.front;
            int version = isUp ? behind : behind - 1;
            for (int i = 0; i < PAIR; i++) {
                if (told[i] == NONE && isNeeded(version, to[i])) {
                    told[i] = defaultOf(to[i]);
                }
            }
        }

        /** The same, whether the fields that are reached are needed or not. */
        private void tellAlone(Step step, boolean isUp, int[] given, int[] told) {
            int from = isUp ? step.front[0] : step.behind[0];
            int to = isUp ? step.behind[0] : step.front[0];
            told[0] = NONE;
            told[1] = NONE;
            switch (step.kind) {
                case ADD:
                    told[0] = isUp ? defaultOf(to) : NONE;
                    break;
                case TURN:
                    told[0] = turned(given[0], kindOf(from), kindOf(to));
                    break;
                case SPLIT:
                case JOIN:
                    if (isUp == (step.kind == SPLIT)) {
                        told[0] = quotient(given[0], step.factor);
                        told[1] = remainder(given[0], step.factor);
                    } else {
                        told[0] = combined(given[0], given[1], step.factor);
                    }
                    break;
                case NEED:
                    told[0] = given[0];
                    break;
                default:
                    break;
            }
        }
    }

    /** A step from a version to the next one. */
    private static final class Step {
        final int kind;
        final int[] front;
        final int[] behind;
        // The divisor of a split, the factor of a join.
        final int factor;

        Step(int kind, int front, int secondFront, int behind, int secondBehind, int factor) {
            this.kind = kind;
            this.front = new int[] {front, secondFront};
            this.behind = new int[] {behind, secondBehind};
            this.factor = factor;
        }

        boolean isInFront(int field) {
            return field == front[0] || field == front[1];
        }

        long frontFields() {
            return together(front);
        }

        long behindFields() {
            return together(behind);
        }

        private static long together(int[] fields) {
            long all = 0;
            for (int i = 0; i < fields.length; i++) {
                if (fields[i] != NONE) {
                    all |= bit(fields[i]);
                }
            }
            return all;
        }
    }

    /** A form, with the numbers of its fields as bits. */
    private static final class Form {
        final Schema owner;
        int version;
        boolean isAlive;
        long held;
        long writable;

        Form(Schema owner) {
            this.owner = owner;
            version = owner.head;
            isAlive = true;
        }
    }

    /** A row, and the last move of it that could still be undone. */
    private static final class Row {
        final Schema owner;
        final State state;
        int lastMove;

        Row(Schema owner) {
            this.owner = owner;
            state = new State();
            lastMove = NONE;
        }
    }

    /** All of a row that a step changes, so that it can be copied and brought back. */
    private static final class State {
        int version;
        int losses;
        // By the number of the field; what stands for fields that the version has not is never looked at.
        private final int[] values = new int[FIELDS];
        private final boolean[] isBoxed = new boolean[2 * VERSIONS];
        private final int[] box = new int[2 * PAIR * VERSIONS];

        State() {
            for (int i = 0; i < FIELDS; i++) {
                values[i] = NONE;
            }
        }

        void copyFrom(State other) {
            version = other.version;
            losses = other.losses;
            System.arraycopy(other.values, 0, values, 0, values.length);
            System.arraycopy(other.isBoxed, 0, isBoxed, 0, isBoxed.length);
            System.arraycopy(other.box, 0, box, 0, box.length);
        }

        int valueOf(int field) {
            return field >= 0 && field < FIELDS ? values[field] : NONE;
        }

        void put(int field, int value) {
            if (field >= 0 && field < FIELDS) {
                values[field] = value;
            }
        }

        int boxEntries() {
            int count = 0;
            for (int i = 0; i < isBoxed.length; i++) {
                count += isBoxed[i] ? 1 : 0;
            }
            return count;
        }

        boolean takeOut(int behind, int side, int[] pair) {
            int entry = 2 * behind + side;
            if (entry < 0 || entry >= isBoxed.length || !isBoxed[entry]) {
                return false;
            }
            isBoxed[entry] = false;
            pair[0] = box[PAIR * entry];
            pair[1] = box[PAIR * entry + 1];
            return true;
        }

        void putAway(int behind, int side, int[] pair) {
            int entry = 2 * behind + side;
            if (entry >= 0 && entry < isBoxed.length) {
                isBoxed[entry] = true;
                box[PAIR * entry] = pair[0];
                box[PAIR * entry + 1] = pair[1];
            }
        }
    }

    /** A mover, and its last move that is not undone. */
    private static final class Mover {
        final Schema owner;
        final int target;
        int lastMove;

        Mover(Schema owner, int target) {
            this.owner = owner;
            this.target = target;
            lastMove = NONE;
        }
    }

    /** A step of a mover, with what is needed to undo it. */
    private static final class Move {
        final int row;
        final int earlierOfMover;
        final int earlierOfRow;
        final State before;

        Move(int row, int earlierOfMover, int earlierOfRow) {
            this.row = row;
            this.earlierOfMover = earlierOfMover;
            this.earlierOfRow = earlierOfRow;
            before = new State();
        }
    }
}
