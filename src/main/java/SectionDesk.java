import java.util.Arrays;

/**
 * A check-out desk for a document of nested sections. Every promise is told in the document;
 * the public methods stand in its order, and each of them first tests whether it is to be refused,
 * then saves the state if it is undoable, and only then changes anything.
 */
public final class SectionDesk {
    public static final int NONE = -1;

    private static final int SECTIONS = 20;
    private static final int LINES = 6;
    /** All lines of all sections: the line L of the section S is the cell S * LINES + L. */
    private static final int CELLS = SECTIONS * LINES;
    private static final int CHECK_OUTS = 10;
    private static final int USERS = 6;
    private static final int PLACES = 8;
    private static final int ENTRIES = 150;
    private static final int SAVED = 4;
    private static final int TEXT_BYTES = 120;
    /** The shortest order has four bytes. */
    private static final int MOST_ORDERS = TEXT_BYTES / 4;
    private static final int NUMBERS = 4;
    private static final int MOST_DIGITS = 4;
    private static final int OUTLINE_BYTES = 128;
    private static final int MOST_VALUE = 999;
    private static final int MOST_BYTE = 127;
    private static final int MOST_TICKS = 1000;
    private static final int FORESIGHT = 2000;

    private static final int REFUSE = 0;
    private static final int TAKE_OWN = 1;
    private static final int KEEP = 2;

    private static final int FINE = 0;
    private static final int NO_SUCH = 1;
    private static final int BAD_VALUE = 2;
    private static final int BAD_STATE = 3;

    private final Desk desk = new Desk();
    /** A second desk, on which what-if queries and orders are tried without touching the first. */
    private final Desk trial = new Desk();
    private final SavedStates saved = new SavedStates();
    private final OrderText text = new OrderText();
    private final Outline outlined = new Outline();

    public SectionDesk() {
    }

    // ---- document

    public int addSection(int parent) throws IndexOutOfBoundsException, IllegalStateException {
        refuseFor(desk.addFault(parent));
        saved.push(desk);
        return desk.tree.add(parent);
    }

    public int removeSection(int section)
            throws IndexOutOfBoundsException, IllegalArgumentException, IllegalStateException {
        refuseFor(desk.removeFault(section));
        saved.push(desk);
        return desk.removeNow(section);
    }

    public int moveSection(int section, int parent)
            throws IndexOutOfBoundsException, IllegalArgumentException, IllegalStateException {
        refuseFor(desk.moveFault(section, parent));
        saved.push(desk);
        desk.tree.move(section, parent);
        return desk.tree.depthOf(section);
    }

    public int sections() {
        return desk.tree.size;
    }

    public int section(int section, int what)
            throws IndexOutOfBoundsException, IllegalArgumentException {
        refuseFor(faultOf(desk.tree.has(section), isWithin(what, 0, 4), true));
        switch (what) {
            case 0: return desk.tree.parentOf(section);
            case 1: return desk.tree.childrenOf(section);
            case 2: return desk.tree.depthOf(section);
            case 3: return desk.tree.versionOf(section);
            default: return Integer.bitCount(desk.tree.subtreeOf(section)) - 1;
        }
    }

    public int child(int section, int index) throws IndexOutOfBoundsException {
        int found = desk.tree.childAt(section, index);
        refuseFor(faultOf(found != NONE, true, true));
        return found;
    }

    public int line(int section, int line) throws IndexOutOfBoundsException {
        refuseFor(faultOf(desk.hasLine(section, line), true, true));
        return desk.tree.valueAt(cellOf(section, line));
    }

    public int write(int section, int line, int value)
            throws IndexOutOfBoundsException, IllegalArgumentException, IllegalStateException {
        refuseFor(desk.writeFault(section, line, value));
        saved.push(desk);
        return desk.writeNow(section, line, value);
    }

    // ---- check-outs

    public int request(int user, int section, int ticks, boolean shared)
            throws IndexOutOfBoundsException, IllegalArgumentException, IllegalStateException {
        refuseFor(desk.requestFault(user, section, ticks, shared));
        saved.push(desk);
        return desk.requestNow(user, section, ticks, shared);
    }

    public int cancel(int user) throws IndexOutOfBoundsException, IllegalStateException {
        refuseFor(desk.waitingFault(user));
        saved.push(desk);
        return desk.cancelNow(user);
    }

    public int renew(int checkOut, int ticks)
            throws IndexOutOfBoundsException, IllegalArgumentException, IllegalStateException {
        refuseFor(desk.renewFault(checkOut, ticks));
        saved.push(desk);
        return desk.renewNow(checkOut, ticks);
    }

    public int breakUp(int checkOut) throws IndexOutOfBoundsException, IllegalStateException {
        refuseFor(desk.breakFault(checkOut));
        saved.push(desk);
        return desk.breakNow(checkOut);
    }

    public int discard(int checkOut) throws IndexOutOfBoundsException {
        refuseFor(desk.checkOutFault(checkOut));
        saved.push(desk);
        return desk.discardNow(checkOut);
    }

    public int edit(int checkOut, int section, int line, int value)
            throws IndexOutOfBoundsException, IllegalArgumentException, IllegalStateException {
        refuseFor(desk.editFault(checkOut, section, line, value));
        saved.push(desk);
        return desk.editNow(checkOut, section, line, value);
    }

    public int copied(int checkOut, int section, int line, boolean base)
            throws IndexOutOfBoundsException {
        refuseFor(faultOf(desk.hasCopy(checkOut, section, line), true, true));
        int cell = cellOf(section, line);
        return base ? desk.outs.baseAt(checkOut, cell) : desk.outs.ownAt(checkOut, cell);
    }

    public int conflicts(int checkOut) throws IndexOutOfBoundsException {
        refuseFor(desk.checkOutFault(checkOut));
        return desk.countConflicts(checkOut);
    }

    public int giveBack(int checkOut, int policy)
            throws IndexOutOfBoundsException, IllegalArgumentException, IllegalStateException {
        refuseFor(desk.giveBackFault(checkOut, policy));
        saved.push(desk);
        return desk.giveBackNow(checkOut, policy);
    }

    public int checkOut(int checkOut, int what)
            throws IndexOutOfBoundsException, IllegalArgumentException {
        refuseFor(faultOf(desk.outs.has(checkOut), isWithin(what, 0, CheckOuts.FACTS), true));
        return what < CheckOuts.FACTS
                ? desk.outs.fact(checkOut, what) : desk.countEdited(checkOut);
    }

    public int holders(int section) throws IndexOutOfBoundsException {
        refuseFor(faultOf(desk.tree.has(section), true, true));
        return desk.holdersOf(section);
    }

    // ---- what if

    public int ifBroken(int checkOut) throws IndexOutOfBoundsException {
        refuseFor(desk.checkOutFault(checkOut));
        if (!desk.outs.isHeld(checkOut)) {
            return 0;
        }
        trial.copyFrom(desk);
        trial.outs.lose(checkOut);
        return trial.serve();
    }

    public int grantedAt(int user) throws IndexOutOfBoundsException, IllegalStateException {
        refuseFor(desk.waitingFault(user));
        trial.copyFrom(desk);
        trial.passTicks(FORESIGHT, user);
        return trial.queue.placeOf(user) == NONE ? trial.tick : NONE;
    }

    public int waitsFor(int user) throws IndexOutOfBoundsException, IllegalStateException {
        refuseFor(desk.waitingFault(user));
        return desk.usersBefore(desk.queue.placeOf(user));
    }

    // ---- history

    public int entries() {
        return desk.history.count;
    }

    public int entry(int entry, int what)
            throws IndexOutOfBoundsException, IllegalArgumentException {
        boolean there = isWithin(entry, 0, desk.history.count - 1);
        refuseFor(faultOf(there, isWithin(what, 0, History.FACTS - 1), true));
        return desk.history.fact(entry, what);
    }

    public int blame(int section, int line) throws IndexOutOfBoundsException {
        refuseFor(faultOf(desk.hasLine(section, line), true, true));
        return desk.history.latestUserOf(section, line);
    }

    public int lineAt(int section, int line, int tick)
            throws IndexOutOfBoundsException, IllegalArgumentException {
        refuseFor(faultOf(desk.hasLine(section, line), isWithin(tick, 0, desk.tick), true));
        return desk.valueAtEndOf(tick, cellOf(section, line));
    }

    public int revert(int section, int tick)
            throws IndexOutOfBoundsException, IllegalArgumentException, IllegalStateException {
        refuseFor(desk.revertFault(section, tick));
        saved.push(desk);
        return desk.revertNow(section, tick);
    }

    // ---- line and time

    public int waiting() {
        return desk.queue.count;
    }

    public int waitingAt(int index, int what)
            throws IndexOutOfBoundsException, IllegalArgumentException {
        boolean there = isWithin(index, 0, desk.queue.count - 1);
        refuseFor(faultOf(there, isWithin(what, 0, Queue.FACTS - 1), true));
        return desk.queue.fact(index, what);
    }

    public int pass(int ticks) throws IllegalArgumentException {
        refuseFor(desk.passFault(ticks));
        saved.push(desk);
        desk.passTicks(ticks, NONE);
        return desk.tick;
    }

    public int useBits(int user) throws IndexOutOfBoundsException {
        refuseFor(faultOf(isUser(user), true, true));
        if (desk.tick == 0) {
            return 0;
        }
        return floatBits((float) desk.heldTicksOf(user) / (float) desk.tick);
    }

    // ---- texts

    public int append(int value) throws IllegalArgumentException, IllegalStateException {
        refuseFor(faultOf(true, isWithin(value, 0, MOST_BYTE), text.length < TEXT_BYTES));
        return text.put(value);
    }

    public int clearText() {
        int before = text.length;
        text.length = 0;
        return before;
    }

    public int carryOut() {
        int errorAt = text.parse();
        if (errorAt != NONE) {
            return -10 - errorAt;
        }
        trial.copyFrom(desk);
        for (int order = 0; order < text.orders; order++) {
            if (!runOrder(order)) {
                return -1000 - order;
            }
        }
        saved.push(desk);
        desk.copyFrom(trial);
        return text.orders;
    }

    public int outline(int index) throws IllegalArgumentException {
        refuseFor(faultOf(true, index >= 0, true));
        outlined.length = 0;
        Outline.putSection(outlined, desk.tree, 0, 0);
        return outlined.byteAt(index);
    }

    // ---- state

    public int undo() throws IllegalStateException {
        refuseFor(faultOf(true, true, saved.count > 0));
        saved.pop(desk);
        return saved.count;
    }

    public long digest() {
        long hash = desk.hashOnto(2857L);
        hash = hashed(hash, text.length);
        return hashed(hash, saved.count);
    }

    /**
     * Carries out one order on the trial desk; answers false, and changes nothing, if the order
     * would throw an exception.
     */
    private boolean runOrder(int order) {
        int first = text.numberOf(order, 0);
        int second = text.numberOf(order, 1);
        int third = text.numberOf(order, 2);
        int fourth = text.numberOf(order, 3);
        int fault = orderFault(text.letterOf(order), first, second, third, fourth);
        if (fault != FINE) {
            return false;
        }
        switch (text.letterOf(order)) {
            case 'q': trial.requestNow(first, second, third, fourth == 1); break;
            case 'e': trial.editNow(first, second, third, fourth); break;
            case 'g': trial.giveBackNow(first, second); break;
            case 'd': trial.discardNow(first); break;
            case 'b': trial.breakNow(first); break;
            default: trial.passTicks(first, NONE); break;
        }
        return true;
    }

    private int orderFault(int letter, int first, int second, int third, int fourth) {
        switch (letter) {
            case 'q': return isWithin(fourth, 0, 1)
                    ? trial.requestFault(first, second, third, fourth == 1) : BAD_VALUE;
            case 'e': return trial.editFault(first, second, third, fourth);
            case 'g': return trial.giveBackFault(first, second);
            case 'd': return trial.checkOutFault(first);
            case 'b': return trial.breakFault(first);
            default: return trial.passFault(first);
        }
    }

    // ---- small helpers

    /** What a call is refused for: the first of the three conditions that does not hold. */
    private static int faultOf(boolean there, boolean inRange, boolean allowed) {
        if (!there) {
            return NO_SUCH;
        }
        if (!inRange) {
            return BAD_VALUE;
        }
        return allowed ? FINE : BAD_STATE;
    }

    private static void refuseFor(int fault) {
        switch (fault) {
            case NO_SUCH: throw new IndexOutOfBoundsException("there is no such thing");
            case BAD_VALUE: throw new IllegalArgumentException("this value is not allowed");
            case BAD_STATE: throw new IllegalStateException("this is not possible now");
            default: break;
        }
    }

    private static boolean isWithin(int value, int least, int most) {
        return value >= least && value <= most;
    }

    private static boolean isUser(int user) {
        return isWithin(user, 0, USERS - 1);
    }

    private static boolean isLine(int line) {
        return isWithin(line, 0, LINES - 1);
    }

    private static boolean isCell(int cell) {
        return isWithin(cell, 0, CELLS - 1);
    }

    private static int cellOf(int section, int line) {
        return section * LINES + line;
    }

    private static boolean hasBit(int bits, int number) {
        return (bits >>> number & 1) != 0;
    }

    private static long hashed(long hash, int value) {
        return 31L * hash + value;
    }

    private static void copyRow(int[] from, int[] into) {
        System.arraycopy(from, 0, into, 0, Math.min(from.length, into.length));
    }

    /**
     * The bits of a float that is 0 or lies between 2 to the power of -64 and of 64: the library
     * function is not among those that may be used. All steps are exact.
     */
    private static int floatBits(float value) {
        if (!(value > 0.0f)) {
            return 0;
        }
        float rest = value;
        int exponent = 127;
        for (int i = 0; i < 64 && rest >= 2.0f; i++) {
            rest = rest * 0.5f;
            exponent++;
        }
        for (int i = 0; i < 64 && rest < 1.0f; i++) {
            rest = rest * 2.0f;
            exponent--;
        }
        int fraction = (int) ((rest - 1.0f) * 8388608.0f);
        return exponent << 23 | fraction;
    }

    /** The sections with their order and their lines. */
    private static final class Tree {
        private static final int FREE = -2;

        private final int[] parents = new int[SECTIONS];
        /** All sections, so that the children of each one stand in their order. */
        private final int[] sequence = new int[SECTIONS];
        private final int[] versions = new int[SECTIONS];
        private final int[] values = new int[CELLS];
        /** For each section the bit set of itself and of the sections below it. */
        private final int[] subtrees = new int[SECTIONS];
        /** For each section the bit set of itself and of the sections above it. */
        private final int[] lineages = new int[SECTIONS];
        private int size;

        Tree() {
            Arrays.fill(parents, FREE);
            parents[0] = NONE;
            subtrees[0] = 1;
            lineages[0] = 1;
            size = 1;
        }

        void copyFrom(Tree other) {
            copyRow(other.parents, parents);
            copyRow(other.sequence, sequence);
            copyRow(other.versions, versions);
            copyRow(other.values, values);
            copyRow(other.subtrees, subtrees);
            copyRow(other.lineages, lineages);
            size = other.size;
        }

        boolean has(int section) {
            return section >= 0 && section < SECTIONS && parents[section] != FREE;
        }

        int parentOf(int section) {
            return has(section) ? parents[section] : NONE;
        }

        int versionOf(int section) {
            return has(section) ? versions[section] : 0;
        }

        int valueAt(int cell) {
            return cell >= 0 && cell < CELLS ? values[cell] : 0;
        }

        int subtreeOf(int section) {
            return section >= 0 && section < SECTIONS ? subtrees[section] : 0;
        }

        int lineageOf(int section) {
            return section >= 0 && section < SECTIONS ? lineages[section] : 0;
        }

        /** The bit set of the sections that overlap a section. */
        int overlapOf(int section) {
            return subtreeOf(section) | lineageOf(section);
        }

        boolean covers(int top, int section) {
            return isWithin(section, 0, SECTIONS - 1) && hasBit(subtreeOf(top), section);
        }

        int depthOf(int section) {
            return Integer.bitCount(lineageOf(section)) - 1;
        }

        int childrenOf(int section) {
            int children = 0;
            for (int i = 0; i < size && i < SECTIONS; i++) {
                if (has(section) && parentOf(sequence[i]) == section) {
                    children++;
                }
            }
            return children;
        }

        int childAt(int section, int index) {
            int children = 0;
            for (int i = 0; i < size && i < SECTIONS; i++) {
                if (has(section) && parentOf(sequence[i]) == section) {
                    if (children == index) {
                        return sequence[i];
                    }
                    children++;
                }
            }
            return NONE;
        }

        int add(int parent) {
            int section = lowestFree();
            if (!isWithin(section, 0, SECTIONS - 1) || !isWithin(size, 0, SECTIONS - 1)) {
                return NONE;
            }
            parents[section] = parent;
            versions[section] = 0;
            for (int line = 0; line < LINES; line++) {
                setValue(cellOf(section, line), 0);
            }
            sequence[size] = section;
            size++;
            findOverlaps();
            return section;
        }

        private int lowestFree() {
            for (int section = 0; section < SECTIONS; section++) {
                if (parents[section] == FREE) {
                    return section;
                }
            }
            return NONE;
        }

        void remove(int gone) {
            int kept = 0;
            int before = size;
            for (int i = 0; i < before && i < SECTIONS && kept < SECTIONS; i++) {
                int section = sequence[i];
                if (!hasBit(gone, section)) {
                    sequence[kept] = section;
                    kept++;
                } else if (has(section)) {
                    parents[section] = FREE;
                }
            }
            size = kept;
            findOverlaps();
        }

        void move(int section, int parent) {
            if (!has(section)) {
                return;
            }
            int kept = 0;
            for (int i = 0; i < size && i < SECTIONS && kept < SECTIONS; i++) {
                if (sequence[i] != section) {
                    sequence[kept] = sequence[i];
                    kept++;
                }
            }
            if (kept < SECTIONS) {
                sequence[kept] = section;
            }
            parents[section] = parent;
            findOverlaps();
        }

        private void findOverlaps() {
            Arrays.fill(subtrees, 0);
            Arrays.fill(lineages, 0);
            for (int section = 0; section < SECTIONS; section++) {
                int above = section;
                for (int level = 0; level < SECTIONS && has(above); level++) {
                    subtrees[above] |= 1 << section;
                    lineages[section] |= 1 << above;
                    above = parents[above];
                }
            }
        }

        void setValue(int cell, int value) {
            if (isCell(cell)) {
                values[cell] = value;
            }
        }

        void raiseVersion(int section) {
            if (has(section)) {
                versions[section]++;
            }
        }

        long hashOnto(long start) {
            long hash = start;
            for (int section = 0; section < SECTIONS; section++) {
                if (has(section)) {
                    hash = hashSection(hash, section);
                }
            }
            return hash;
        }

        private long hashSection(long start, int section) {
            int children = childrenOf(section);
            long hash = hashed(start, section);
            hash = hashed(hash, parentOf(section));
            hash = hashed(hash, versionOf(section));
            hash = hashed(hash, children);
            for (int index = 0; index < children; index++) {
                hash = hashed(hash, childAt(section, index));
            }
            for (int line = 0; line < LINES; line++) {
                hash = hashed(hash, valueAt(cellOf(section, line)));
            }
            return hash;
        }
    }

    /** The check-outs with their working copies; a bit tells which numbers are in use. */
    private static final class CheckOuts {
        private static final int USER = 0;
        private static final int SECTION = 1;
        private static final int EXPIRY = 2;
        private static final int HELD = 3;
        private static final int SHARED = 4;
        private static final int FACTS = 5;

        private final int[] facts = new int[CHECK_OUTS * FACTS];
        private final int[] bases = new int[CHECK_OUTS * CELLS];
        private final int[] owns = new int[CHECK_OUTS * CELLS];
        private int used;

        void copyFrom(CheckOuts other) {
            copyRow(other.facts, facts);
            copyRow(other.bases, bases);
            copyRow(other.owns, owns);
            used = other.used;
        }

        boolean has(int number) {
            return number >= 0 && number < CHECK_OUTS && (used >>> number & 1) != 0;
        }

        int fact(int number, int what) {
            boolean there = number >= 0 && number < CHECK_OUTS && (used >>> number & 1) != 0;
            return there && what >= 0 && what < FACTS ? facts[number * FACTS + what] : 0;
        }

        private void setFact(int number, int what, int value) {
            if (number >= 0 && number < CHECK_OUTS && what >= 0 && what < FACTS) {
                facts[number * FACTS + what] = value;
            }
        }

        boolean isHeld(int number) {
            return fact(number, HELD) == 1;
        }

        boolean isShared(int number) {
            return fact(number, SHARED) == 1;
        }

        /** The bit set of the sections of the check-outs, of the held ones alone if so asked. */
        int tops(boolean heldAlone) {
            int tops = 0;
            for (int number = 0; number < CHECK_OUTS; number++) {
                if (has(number) && (!heldAlone || isHeld(number))) {
                    tops |= 1 << fact(number, SECTION);
                }
            }
            return tops;
        }

        int countWithout(int absorbed) {
            return Integer.bitCount(used & ~absorbed);
        }

        int lowestFree(int absorbed) {
            for (int number = 0; number < CHECK_OUTS; number++) {
                if (!hasBit(used & ~absorbed, number)) {
                    return number;
                }
            }
            return NONE;
        }

        void open(int number, int user, int section, int expiry, int shared) {
            if (!isWithin(number, 0, CHECK_OUTS - 1)) {
                return;
            }
            used |= 1 << number;
            setFact(number, USER, user);
            setFact(number, SECTION, section);
            setFact(number, EXPIRY, expiry);
            setFact(number, HELD, 1);
            setFact(number, SHARED, shared);
        }

        void setExpiry(int number, int expiry) {
            setFact(number, EXPIRY, expiry);
        }

        void close(int number) {
            if (has(number)) {
                used &= ~(1 << number);
            }
        }

        void closeAll(int numbers) {
            used &= ~numbers;
        }

        void lose(int number) {
            if (isShared(number)) {
                close(number);
            } else {
                setFact(number, HELD, 0);
            }
        }

        int baseAt(int number, int cell) {
            boolean there = number >= 0 && number < CHECK_OUTS && cell >= 0 && cell < CELLS;
            return there ? bases[number * CELLS + cell] : 0;
        }

        int ownAt(int number, int cell) {
            boolean there = number >= 0 && number < CHECK_OUTS && cell >= 0 && cell < CELLS;
            return there ? owns[number * CELLS + cell] : 0;
        }

        void setOwn(int number, int cell, int value) {
            if (number >= 0 && number < CHECK_OUTS && cell >= 0 && cell < CELLS) {
                owns[number * CELLS + cell] = value;
            }
        }

        private void setBase(int number, int cell, int value) {
            if (number >= 0 && number < CHECK_OUTS && cell >= 0 && cell < CELLS) {
                bases[number * CELLS + cell] = value;
            }
        }

        void copyDocument(int number, int sections, Tree tree) {
            for (int cell = 0; cell < CELLS; cell++) {
                if (hasBit(sections, cell / LINES)) {
                    setBase(number, cell, tree.valueAt(cell));
                    setOwn(number, cell, tree.valueAt(cell));
                }
            }
        }

        void copyOther(int number, int sections, int from) {
            for (int cell = 0; cell < CELLS; cell++) {
                if (hasBit(sections, cell / LINES)) {
                    setBase(number, cell, baseAt(from, cell));
                    setOwn(number, cell, ownAt(from, cell));
                }
            }
        }

        long hashOnto(long start, Tree tree) {
            long hash = start;
            for (int number = 0; number < CHECK_OUTS; number++) {
                if (has(number)) {
                    hash = hashed(hash, number);
                    for (int what = 0; what < FACTS; what++) {
                        hash = hashed(hash, fact(number, what));
                    }
                    hash = hashCopy(hash, number, tree.subtreeOf(fact(number, SECTION)));
                }
            }
            return hash;
        }

        private long hashCopy(long start, int number, int sections) {
            long hash = start;
            for (int cell = 0; cell < CELLS; cell++) {
                if (hasBit(sections, cell / LINES)) {
                    hash = hashed(hash, baseAt(number, cell));
                    hash = hashed(hash, ownAt(number, cell));
                }
            }
            return hash;
        }
    }

    /** The line of waiting requests. */
    private static final class Queue {
        private static final int USER = 0;
        private static final int SECTION = 1;
        private static final int TICKS = 2;
        private static final int SHARED = 3;
        private static final int FACTS = 4;

        private final int[] facts = new int[PLACES * FACTS];
        private int count;

        void copyFrom(Queue other) {
            copyRow(other.facts, facts);
            count = other.count;
        }

        int fact(int place, int what) {
            boolean there = place >= 0 && place < PLACES && what >= 0 && what < FACTS;
            return there ? facts[place * FACTS + what] : 0;
        }

        private void setFact(int place, int what, int value) {
            if (place >= 0 && place < PLACES && what >= 0 && what < FACTS) {
                facts[place * FACTS + what] = value;
            }
        }

        boolean isFull() {
            return count >= PLACES;
        }

        int placeOf(int user) {
            for (int place = 0; place < count; place++) {
                if (fact(place, USER) == user) {
                    return place;
                }
            }
            return NONE;
        }

        /** The bit set of the sections of the waiting requests. */
        int tops() {
            int tops = 0;
            for (int place = 0; place < count; place++) {
                tops |= 1 << fact(place, SECTION);
            }
            return tops;
        }

        int join(int user, int section, int ticks, boolean shared) {
            if (isFull()) {
                return NONE;
            }
            setFact(count, USER, user);
            setFact(count, SECTION, section);
            setFact(count, TICKS, ticks);
            setFact(count, SHARED, shared ? 1 : 0);
            count++;
            return count - 1;
        }

        void leave(int place) {
            if (!isWithin(place, 0, count - 1)) {
                return;
            }
            for (int behind = place + 1; behind < count; behind++) {
                for (int what = 0; what < FACTS; what++) {
                    setFact(behind - 1, what, fact(behind, what));
                }
            }
            count--;
        }

        long hashOnto(long start) {
            long hash = hashed(start, count);
            for (int place = 0; place < count; place++) {
                for (int what = 0; what < FACTS; what++) {
                    hash = hashed(hash, fact(place, what));
                }
            }
            return hash;
        }
    }

    /** The entries of the history, in a ring, so that dropping the oldest one moves nothing. */
    private static final class History {
        private static final int TICK = 0;
        private static final int SECTION = 1;
        private static final int LINE = 2;
        private static final int BEFORE = 3;
        private static final int AFTER = 4;
        private static final int USER = 5;
        private static final int FACTS = 6;

        private final int[] facts = new int[ENTRIES * FACTS];
        private int first;
        private int count;

        void copyFrom(History other) {
            copyRow(other.facts, facts);
            first = other.first;
            count = other.count;
        }

        /** The index of a fact in the ring, or NONE. */
        private int indexOf(int entry, int what) {
            boolean there = entry >= 0 && entry < ENTRIES && what >= 0 && what < FACTS;
            return there ? (first + entry) % ENTRIES * FACTS + what : NONE;
        }

        int fact(int entry, int what) {
            int index = indexOf(entry, what);
            return index >= 0 && index < ENTRIES * FACTS ? facts[index] : 0;
        }

        private void setFact(int entry, int what, int value) {
            int index = indexOf(entry, what);
            if (index >= 0 && index < ENTRIES * FACTS) {
                facts[index] = value;
            }
        }

        void add(int tick, int cell, int before, int after, int user) {
            if (count >= ENTRIES) {
                first = (first + 1) % ENTRIES;
                count = ENTRIES - 1;
            }
            setFact(count, TICK, tick);
            setFact(count, SECTION, cell / LINES);
            setFact(count, LINE, cell % LINES);
            setFact(count, BEFORE, before);
            setFact(count, AFTER, after);
            setFact(count, USER, user);
            count++;
        }

        void removeOf(int sections) {
            int kept = 0;
            for (int entry = 0; entry < count; entry++) {
                if (!hasBit(sections, fact(entry, SECTION))) {
                    for (int what = 0; what < FACTS; what++) {
                        setFact(kept, what, fact(entry, what));
                    }
                    kept++;
                }
            }
            count = kept;
        }

        int latestUserOf(int section, int line) {
            for (int entry = count - 1; entry >= 0; entry--) {
                if (fact(entry, SECTION) == section && fact(entry, LINE) == line) {
                    return fact(entry, USER);
                }
            }
            return NONE;
        }

        /** Turns the present values of all cells into those that they had at the end of a tick. */
        void turnBack(int tick, int[] values) {
            for (int entry = count - 1; entry >= 0; entry--) {
                int cell = cellOf(fact(entry, SECTION), fact(entry, LINE));
                if (fact(entry, TICK) > tick && isWithin(cell, 0, values.length - 1)) {
                    values[cell] = fact(entry, BEFORE);
                }
            }
        }

        long hashOnto(long start) {
            long hash = hashed(start, count);
            for (int entry = 0; entry < count; entry++) {
                for (int what = 0; what < FACTS; what++) {
                    hash = hashed(hash, fact(entry, what));
                }
            }
            return hash;
        }
    }

    /**
     * The whole state but for the order text and the saved states. A method ..Fault tells what a
     * call is refused for and changes nothing; a method ..Now is called only where that is FINE.
     */
    private static final class Desk {
        private final Tree tree = new Tree();
        private final CheckOuts outs = new CheckOuts();
        private final Queue queue = new Queue();
        private final History history = new History();
        private final int[] heldTicks = new int[USERS];
        /** Work space: the values that the cells of the document are to have. */
        private final int[] wanted = new int[CELLS];
        private int tick;

        void copyFrom(Desk other) {
            tree.copyFrom(other.tree);
            outs.copyFrom(other.outs);
            queue.copyFrom(other.queue);
            history.copyFrom(other.history);
            copyRow(other.heldTicks, heldTicks);
            tick = other.tick;
        }

        // ---- structure

        /** The sections of all check-outs and waiting requests. */
        private int claims() {
            return outs.tops(false) | queue.tops();
        }

        private boolean isCovered(int section) {
            return (claims() & tree.lineageOf(section)) != 0;
        }

        private boolean isTouched(int section) {
            return (claims() & tree.overlapOf(section)) != 0;
        }

        private boolean isHeldAround(int section) {
            return (outs.tops(true) & tree.overlapOf(section)) != 0;
        }

        int addFault(int parent) {
            return faultOf(tree.has(parent), true, tree.size < SECTIONS && !isCovered(parent));
        }

        int removeFault(int section) {
            return faultOf(tree.has(section), section != 0, !isTouched(section));
        }

        int removeNow(int section) {
            int gone = tree.subtreeOf(section);
            history.removeOf(gone);
            tree.remove(gone);
            return Integer.bitCount(gone);
        }

        int moveFault(int section, int parent) {
            boolean there = tree.has(section) && tree.has(parent);
            boolean inRange = section != 0 && !tree.covers(section, parent);
            return faultOf(there, inRange, !isTouched(section) && !isCovered(parent));
        }

        // ---- changes of the document

        boolean hasLine(int section, int line) {
            return tree.has(section) && isLine(line);
        }

        int writeFault(int section, int line, int value) {
            boolean held = (outs.tops(true) & tree.lineageOf(section)) != 0;
            return faultOf(hasLine(section, line), isWithin(value, 0, MOST_VALUE), !held);
        }

        int writeNow(int section, int line, int value) {
            int cell = cellOf(section, line);
            int before = tree.valueAt(cell);
            wantPresent();
            want(cell, value);
            changeToWanted(NONE);
            return before;
        }

        private void wantPresent() {
            copyRow(tree.values, wanted);
        }

        private void want(int cell, int value) {
            if (isCell(cell)) {
                wanted[cell] = value;
            }
        }

        /** One change of the document; answers how many lines have got a different value. */
        private int changeToWanted(int user) {
            int changed = 0;
            for (int section = 0; section < SECTIONS; section++) {
                int before = changed;
                for (int line = 0; line < LINES; line++) {
                    changed += changeCell(cellOf(section, line), user);
                }
                if (changed > before) {
                    tree.raiseVersion(section);
                }
            }
            return changed;
        }

        private int changeCell(int cell, int user) {
            if (!isCell(cell) || wanted[cell] == tree.valueAt(cell)) {
                return 0;
            }
            history.add(tick, cell, tree.valueAt(cell), wanted[cell], user);
            tree.setValue(cell, wanted[cell]);
            return 1;
        }

        int valueAtEndOf(int past, int cell) {
            wantPresent();
            history.turnBack(past, wanted);
            return isCell(cell) ? wanted[cell] : 0;
        }

        int revertFault(int section, int past) {
            return faultOf(tree.has(section), isWithin(past, 0, tick), !isHeldAround(section));
        }

        int revertNow(int section, int past) {
            wantPresent();
            history.turnBack(past, wanted);
            int sections = tree.subtreeOf(section);
            for (int cell = 0; cell < CELLS; cell++) {
                if (!hasBit(sections, cell / LINES)) {
                    want(cell, tree.valueAt(cell));
                }
            }
            return changeToWanted(NONE);
        }

        // ---- requests

        int requestFault(int user, int section, int ticks, boolean shared) {
            boolean free = !holdsAround(user, section, shared)
                    && queue.placeOf(user) == NONE && !queue.isFull();
            return faultOf(isUser(user) && tree.has(section), isWithin(ticks, 1, MOST_TICKS), free);
        }

        /** Whether what the user holds rules out that he requests this section. */
        private boolean holdsAround(int user, int section, boolean shared) {
            int around = shared ? tree.overlapOf(section) : tree.lineageOf(section);
            for (int number = 0; number < CHECK_OUTS; number++) {
                if (outs.isHeld(number) && outs.fact(number, CheckOuts.USER) == user
                        && hasBit(around, outs.fact(number, CheckOuts.SECTION))) {
                    return true;
                }
            }
            return false;
        }

        int requestNow(int user, int section, int ticks, boolean shared) {
            return lookAt(queue.join(user, section, ticks, shared));
        }

        /** Serves the line; answers how many requests were granted. */
        int serve() {
            int place = 0;
            int granted = 0;
            int waiting = queue.count;
            for (int looked = 0; looked < waiting; looked++) {
                if (lookAt(place) == NONE) {
                    place++;
                } else {
                    granted++;
                }
            }
            return granted;
        }

        /** Grants the request at a place of the line if that can be; answers the check-out. */
        private int lookAt(int place) {
            int absorbed = absorbedBy(place);
            boolean room = outs.countWithout(absorbed) < CHECK_OUTS;
            if (!room || hinderersOf(place, absorbed) != 0 || blockersOf(place) != 0) {
                return NONE;
            }
            int number = outs.lowestFree(absorbed);
            int section = queue.fact(place, Queue.SECTION);
            int expiry = tick + queue.fact(place, Queue.TICKS);
            startCopy(number, section, absorbed);
            outs.closeAll(absorbed);
            outs.open(number, queue.fact(place, Queue.USER), section, expiry,
                    queue.fact(place, Queue.SHARED));
            queue.leave(place);
            return number;
        }

        /** The bit set of the check-outs that a waiting request absorbs when it is granted. */
        private int absorbedBy(int place) {
            if (queue.fact(place, Queue.SHARED) == 1) {
                return 0;
            }
            int section = queue.fact(place, Queue.SECTION);
            int below = tree.subtreeOf(section) & ~(1 << section);
            int absorbed = 0;
            for (int number = 0; number < CHECK_OUTS; number++) {
                if (outs.isHeld(number)
                        && outs.fact(number, CheckOuts.USER) == queue.fact(place, Queue.USER)
                        && hasBit(below, outs.fact(number, CheckOuts.SECTION))) {
                    absorbed |= 1 << number;
                }
            }
            return absorbed;
        }

        /** The bit set of the users whose held check-outs stand against a waiting request. */
        private int hinderersOf(int place, int absorbed) {
            int overlap = tree.overlapOf(queue.fact(place, Queue.SECTION));
            boolean shared = queue.fact(place, Queue.SHARED) == 1;
            int users = 0;
            for (int number = 0; number < CHECK_OUTS; number++) {
                if (outs.isHeld(number) && !hasBit(absorbed, number)
                        && !(shared && outs.isShared(number))
                        && hasBit(overlap, outs.fact(number, CheckOuts.SECTION))) {
                    users |= 1 << outs.fact(number, CheckOuts.USER);
                }
            }
            return users;
        }

        /** The bit set of the users whose requests stand before a waiting request and block it. */
        private int blockersOf(int place) {
            int overlap = tree.overlapOf(queue.fact(place, Queue.SECTION));
            boolean shared = queue.fact(place, Queue.SHARED) == 1;
            int users = 0;
            for (int before = 0; before < place; before++) {
                if (!(shared && queue.fact(before, Queue.SHARED) == 1)
                        && hasBit(overlap, queue.fact(before, Queue.SECTION))) {
                    users |= 1 << queue.fact(before, Queue.USER);
                }
            }
            return users;
        }

        int usersBefore(int place) {
            return hinderersOf(place, absorbedBy(place)) | blockersOf(place);
        }

        /**
         * Makes the working copy of a new check-out. Its number may be that of an absorbed one:
         * exclusive ones do not overlap, so no cell is written before it was read.
         */
        private void startCopy(int number, int section, int absorbed) {
            int sections = tree.subtreeOf(section);
            for (int from = 0; from < CHECK_OUTS; from++) {
                if (hasBit(absorbed, from) && !outs.isShared(from)) {
                    int part = tree.subtreeOf(outs.fact(from, CheckOuts.SECTION));
                    outs.copyOther(number, part, from);
                    sections &= ~part;
                }
            }
            outs.copyDocument(number, sections, tree);
        }

        int waitingFault(int user) {
            return faultOf(isUser(user), true, queue.placeOf(user) != NONE);
        }

        int cancelNow(int user) {
            queue.leave(queue.placeOf(user));
            serve();
            return queue.count;
        }

        // ---- check-outs

        int checkOutFault(int number) {
            return faultOf(outs.has(number), true, true);
        }

        private int sectionsOf(int number) {
            return tree.subtreeOf(outs.fact(number, CheckOuts.SECTION));
        }

        boolean hasCopy(int number, int section, int line) {
            return outs.has(number) && hasLine(section, line)
                    && hasBit(sectionsOf(number), section);
        }

        int renewFault(int number, int ticks) {
            int overlap = tree.overlapOf(outs.fact(number, CheckOuts.SECTION));
            boolean free = outs.isHeld(number) && (queue.tops() & overlap) == 0;
            return faultOf(outs.has(number), isWithin(ticks, 1, MOST_TICKS), free);
        }

        int renewNow(int number, int ticks) {
            outs.setExpiry(number, tick + ticks);
            return outs.fact(number, CheckOuts.EXPIRY);
        }

        int breakFault(int number) {
            return faultOf(outs.has(number), true, outs.isHeld(number));
        }

        int breakNow(int number) {
            int user = outs.fact(number, CheckOuts.USER);
            outs.lose(number);
            serve();
            return user;
        }

        int discardNow(int number) {
            int edited = countEdited(number);
            outs.close(number);
            serve();
            return edited;
        }

        int countEdited(int number) {
            int sections = sectionsOf(number);
            int edited = 0;
            for (int cell = 0; cell < CELLS; cell++) {
                if (hasBit(sections, cell / LINES)
                        && outs.ownAt(number, cell) != outs.baseAt(number, cell)) {
                    edited++;
                }
            }
            return edited;
        }

        int editFault(int number, int section, int line, int value) {
            return faultOf(hasCopy(number, section, line), isWithin(value, 0, MOST_VALUE),
                    !outs.isShared(number));
        }

        int editNow(int number, int section, int line, int value) {
            int cell = cellOf(section, line);
            int before = outs.ownAt(number, cell);
            outs.setOwn(number, cell, value);
            return before;
        }

        int holdersOf(int section) {
            int holders = 0;
            for (int number = 0; number < CHECK_OUTS; number++) {
                if (outs.isHeld(number) && hasBit(sectionsOf(number), section)) {
                    holders |= 1 << number;
                }
            }
            return holders;
        }

        // ---- returning

        int giveBackFault(int number, int policy) {
            boolean free = outs.isHeld(number)
                    || !isHeldAround(outs.fact(number, CheckOuts.SECTION))
                    && !(policy == REFUSE && countConflicts(number) > 0);
            return faultOf(outs.has(number), isWithin(policy, REFUSE, KEEP), free);
        }

        int countConflicts(int number) {
            if (outs.isHeld(number)) {
                return 0;
            }
            int sections = sectionsOf(number);
            int conflicts = 0;
            for (int cell = 0; cell < CELLS; cell++) {
                if (hasBit(sections, cell / LINES) && isConflict(number, cell)) {
                    conflicts++;
                }
            }
            return conflicts;
        }

        private boolean isConflict(int number, int cell) {
            int base = outs.baseAt(number, cell);
            int own = outs.ownAt(number, cell);
            int there = tree.valueAt(cell);
            return own != base && there != base && there != own;
        }

        int giveBackNow(int number, int policy) {
            wantPresent();
            if (!outs.isShared(number)) {
                wantReturned(number, policy);
            }
            int changed = changeToWanted(outs.fact(number, CheckOuts.USER));
            outs.close(number);
            serve();
            return changed;
        }

        private void wantReturned(int number, int policy) {
            int sections = sectionsOf(number);
            for (int cell = 0; cell < CELLS; cell++) {
                if (hasBit(sections, cell / LINES)) {
                    want(cell, returnedValue(number, cell, policy));
                }
            }
        }

        private int returnedValue(int number, int cell, int policy) {
            int own = outs.ownAt(number, cell);
            if (outs.isHeld(number)) {
                return own;
            }
            boolean stays = own == outs.baseAt(number, cell)
                    || isConflict(number, cell) && policy != TAKE_OWN;
            return stays ? tree.valueAt(cell) : own;
        }

        // ---- time

        int passFault(int ticks) {
            return faultOf(true, isWithin(ticks, 0, MOST_TICKS), true);
        }

        /**
         * Lets ticks pass; if a user is watched, only until his request is granted. Once the line
         * was served in vain, nothing can happen before the next check-out expires, so the ticks
         * up to there are passed in one step.
         */
        void passTicks(int ticks, int watched) {
            boolean settled = false;
            int left = ticks;
            for (int step = 0; step < ticks && left > 0; step++) {
                if (watched != NONE && queue.placeOf(watched) == NONE) {
                    return;
                }
                int size = settled ? ticksToExpiry(left) : 1;
                countUse(size - 1);
                tick += size;
                loseExpired();
                settled = serve() == 0;
                countUse(1);
                left -= size;
            }
        }

        private int ticksToExpiry(int most) {
            int least = most;
            for (int number = 0; number < CHECK_OUTS; number++) {
                if (outs.isHeld(number)) {
                    least = Math.min(least, outs.fact(number, CheckOuts.EXPIRY) - tick);
                }
            }
            return Math.max(1, least);
        }

        private void loseExpired() {
            for (int number = 0; number < CHECK_OUTS; number++) {
                if (outs.isHeld(number) && outs.fact(number, CheckOuts.EXPIRY) == tick) {
                    outs.lose(number);
                }
            }
        }

        private void countUse(int ticks) {
            for (int number = 0; number < CHECK_OUTS; number++) {
                int user = outs.fact(number, CheckOuts.USER);
                if (outs.isHeld(number) && isUser(user)) {
                    heldTicks[user] += ticks;
                }
            }
        }

        int heldTicksOf(int user) {
            return isUser(user) ? heldTicks[user] : 0;
        }

        long hashOnto(long start) {
            long hash = hashed(start, tick);
            hash = tree.hashOnto(hash);
            hash = outs.hashOnto(hash, tree);
            hash = queue.hashOnto(hash);
            for (int user = 0; user < USERS; user++) {
                hash = hashed(hash, heldTicks[user]);
            }
            return history.hashOnto(hash);
        }
    }

    /** The states before the latest undoable calls, the oldest one first; their rows are reused. */
    private static final class SavedStates {
        private final Desk[] states = new Desk[SAVED];
        private int count;

        SavedStates() {
            for (int i = 0; i < SAVED; i++) {
                states[i] = new Desk();
            }
        }

        void push(Desk state) {
            if (count >= SAVED) {
                dropOldest();
            }
            if (count < 0 || count >= SAVED || states[count] == null) {
                return;
            }
            states[count].copyFrom(state);
            count++;
        }

        private void dropOldest() {
            Desk oldest = states[0];
            for (int i = 1; i < SAVED; i++) {
                states[i - 1] = states[i];
            }
            states[SAVED - 1] = oldest;
            count = SAVED - 1;
        }

        void pop(Desk into) {
            if (count <= 0 || count > SAVED || states[count - 1] == null) {
                return;
            }
            count--;
            into.copyFrom(states[count]);
        }
    }

    /** The order text, and the orders that were last read from it. */
    private static final class OrderText {
        private static final int AT_LETTER = 0;
        private static final int AT_SPACE = 1;
        private static final int AT_DIGIT = 2;
        private static final int IN_NUMBER = 3;

        private final int[] bytes = new int[TEXT_BYTES];
        private int length;
        private final int[] letters = new int[MOST_ORDERS];
        private final int[] numbers = new int[MOST_ORDERS * NUMBERS];
        private int orders;
        private int state;
        /** Of the order that is being read: its numbers so far, and the digits of the last one. */
        private int read;
        private int digits;

        int put(int value) {
            if (isWithin(length, 0, TEXT_BYTES - 1)) {
                bytes[length] = value;
                length++;
            }
            return length;
        }

        /** Reads all orders; answers the position of the syntax error, or NONE. */
        int parse() {
            orders = 0;
            state = AT_LETTER;
            for (int at = 0; at < length && at < TEXT_BYTES; at++) {
                if (!takes(bytes[at])) {
                    return at;
                }
            }
            return state == AT_LETTER ? NONE : length;
        }

        /** Takes the next byte of the text if it can stand there. */
        private boolean takes(int value) {
            switch (state) {
                case AT_LETTER: return takesLetter(value);
                case AT_SPACE: return takesSpace(value);
                case AT_DIGIT: return isWithin(value, '0', '9') && takesDigit(value);
                default: return takesInNumber(value);
            }
        }

        private boolean takesLetter(int value) {
            if (numbersAfter(value) == 0 || !isWithin(orders, 0, MOST_ORDERS - 1)) {
                return false;
            }
            letters[orders] = value;
            read = 0;
            state = AT_SPACE;
            return true;
        }

        private static int numbersAfter(int letter) {
            switch (letter) {
                case 'q': return 4;
                case 'e': return 4;
                case 'g': return 2;
                case 'd': return 1;
                case 'b': return 1;
                case 'p': return 1;
                default: return 0;
            }
        }

        private boolean takesSpace(int value) {
            if (value != ' ') {
                return false;
            }
            setNumber(orders, read, 0);
            read++;
            digits = 0;
            state = AT_DIGIT;
            return true;
        }

        private boolean takesDigit(int value) {
            if (digits >= MOST_DIGITS) {
                return false;
            }
            setNumber(orders, read - 1, numberOf(orders, read - 1) * 10 + value - '0');
            digits++;
            state = IN_NUMBER;
            return true;
        }

        private boolean takesInNumber(int value) {
            if (isWithin(value, '0', '9')) {
                return takesDigit(value);
            }
            boolean complete = read == numbersAfter(letterOf(orders));
            if (value != ';') {
                return !complete && takesSpace(value);
            }
            if (complete) {
                orders++;
                state = AT_LETTER;
            }
            return complete;
        }

        int letterOf(int order) {
            return isWithin(order, 0, MOST_ORDERS - 1) ? letters[order] : 0;
        }

        int numberOf(int order, int index) {
            boolean there = isWithin(order, 0, MOST_ORDERS - 1) && isWithin(index, 0, NUMBERS - 1);
            return there ? numbers[order * NUMBERS + index] : 0;
        }

        private void setNumber(int order, int index, int value) {
            if (isWithin(order, 0, MOST_ORDERS - 1) && isWithin(index, 0, NUMBERS - 1)) {
                numbers[order * NUMBERS + index] = value;
            }
        }
    }

    /** The bytes of the outline of the document. */
    private static final class Outline {
        private final int[] bytes = new int[OUTLINE_BYTES];
        private int length;

        int byteAt(int index) {
            boolean there = isWithin(index, 0, length - 1) && index < OUTLINE_BYTES;
            return there ? bytes[index] : NONE;
        }

        private void put(int value) {
            if (isWithin(length, 0, OUTLINE_BYTES - 1)) {
                bytes[length] = value;
                length++;
            }
        }

        private void putNumber(int number) {
            if (number >= 10) {
                put('0' + number / 10);
            }
            put('0' + number % 10);
        }

        private static void putSection(Outline out, Tree tree, int section, int depth) {
            out.putNumber(section);
            int children = tree.childrenOf(section);
            if (children == 0 || depth >= SECTIONS) {
                return;
            }
            out.put('(');
            for (int index = 0; index < children; index++) {
                if (index > 0) {
                    out.put(',');
                }
                putSection(out, tree, tree.childAt(section, index), depth + 1);
            }
            out.put(')');
        }
    }
}
