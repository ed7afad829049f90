import java.util.Arrays;
import java.util.NoSuchElementException;

/**
 * A key-value store with a tree of files on a flash chip.
 *
 * How it lies on the chip: the two first blocks hold, in turn, a list of STATES (which blocks are log, which are
 * tables, from where on the log is to be replayed). A state is one part with an end mark, so each change of the
 * layout is done or not done. The log holds every record with its value; a change is its records and a DONE mark.
 * Tables hold sorted entries that say where in the log a record lies. All that is in memory is made anew from the
 * chip by mount. Enough blocks stay free behind every call to write all that is needed anew (see lacksReserve).
 *
 * Keys inside begin with a byte that tells whose they are: USER, NODE (a file or directory) or PIECE (of a file).
 */
public final class FlashVault {
    private static final int BLOCK = 2048;
    private static final int LIMIT_OF_BLOCK = 256;
    private static final int MOST_TAPE = 2000;
    private static final int MOST_RESULT = 1000;
    private static final int MOST_KEY = 40;
    private static final int MOST_VALUE = 1000;
    private static final int MOST_WRITES = 32;
    private static final int MOST_WRITTEN = 4000;
    private static final int TRANSACTIONS = 8;
    private static final int MOST_NUMBER = 200;
    private static final int MOST_NAME = 30;
    private static final int MOST_SIZE = 16384;
    private static final int PIECE_BYTES = 512;
    private static final int PIECES = MOST_SIZE / PIECE_BYTES;
    private static final int SLASH = 47;

    private static final int USER = 0;
    private static final int NODE = 1;
    private static final int PIECE = 2;
    private static final int KEY_ROOM = MOST_KEY + 1;
    private static final int NODE_HEAD = 4;
    private static final int FILE = 1;
    private static final int DIRECTORY = 2;

    /** The length that stands for a value that was taken out. */
    private static final int OUT = -1;
    private static final int OUT_ON_CHIP = 65535;
    private static final int LATEST = 2147483647;
    private static final int NOBODY = -1;
    private static final int ALL_BLOCKS = -1;

    /** Never 255: so an end mark that was not written can be told from one that was. */
    private static final int END = 90;
    private static final int RECORD_VALUE = 1;
    private static final int RECORD_OUT = 2;
    private static final int RECORD_DONE = 3;
    private static final int RECORD_MOVED = 4;
    private static final int RECORD_HEAD = 8;
    private static final int RECORD_EXTRA = RECORD_HEAD + 1;
    private static final int MOST_CHANGES = 40;

    private static final int STATE = 83;
    private static final int STATE_LEAST = 13;
    private static final int MASTER = 77;
    private static final int MASTER_HEAD = 5;
    private static final int MASTERS = 2;

    private static final int MOST_RUNS = 24;
    private static final int RUN_BLOCKS = 64;
    private static final int LAST_LEVEL = 3;
    private static final int LEVEL_RUNS = 4;
    private static final int ENTRY_EXTRA = 10;
    private static final int SPILL_AT = 96;

    /** A change begins at most five blocks, a clearing three; no call writes more tables than two, but merged ones. */
    private static final int CALL_BLOCKS = 6;
    private static final int CALL_RUNS = 3;

    private final int blocks;
    private final Row tape = new Row(MOST_TAPE);
    private final Row result = new Row(MOST_RESULT);
    private final Row probe = new Row(KEY_ROOM);
    private final Sight sight = new Sight();
    private final Batch change = new Batch();
    private final Tree tree = new Tree();
    private final Chip chip;
    private final Versions versions;
    private final Layout layout;
    private final Tables tables;
    private final Log log;
    private int present = 0;
    private boolean up = true;
    private boolean cutWaits = false;
    private boolean cutLate = false;
    private int cutPart = 0;
    private int cutBytes = 0;

    public FlashVault(int size) {
        blocks = size == 0 ? 64 : size == 1 ? 96 : 128;
        chip = new Chip(blocks);
        versions = new Versions(blocks * 20, sight);
        layout = new Layout(chip, blocks);
        tables = new Tables(chip, layout, versions);
        log = new Log(chip, layout, versions, tables);
    }

    // ---- the tape ----

    public int feed(int a, int b, int c, int d, int e) throws IllegalStateException, IndexOutOfBoundsException {
        requireUp();
        requireTapeRoom(20);
        tape.addInt(a);
        tape.addInt(b);
        tape.addInt(c);
        tape.addInt(d);
        tape.addInt(e);
        return tape.length;
    }

    public int fill(int v, int n) throws IllegalArgumentException, IllegalStateException, IndexOutOfBoundsException {
        requireRange(v, 0, 255);
        requireRange(n, 1, 1000);
        requireUp();
        requireTapeRoom(n);
        for (int i = 0; i < n; i++) {
            tape.add(v);
        }
        return tape.length;
    }

    public int end(int n) throws IllegalArgumentException, IllegalStateException {
        requireRange(n, 0, tape.length);
        requireUp();
        tape.length = n;
        return n;
    }

    // ---- transactions ----

    public int begin() throws IllegalStateException, IndexOutOfBoundsException {
        requireUp();
        int t = sight.leastClosed();
        if (t < 0) {
            throw new IndexOutOfBoundsException("all transactions are open");
        }
        sight.start(t, present);
        return t;
    }

    public int put(int t, int k) throws IllegalArgumentException, IllegalStateException, NoSuchElementException, UnsupportedOperationException {
        requireTransaction(t);
        requireRange(k, 1, Math.min(MOST_KEY, tape.length));
        requireRange(tape.length - k, 0, MOST_VALUE);
        requireUp();
        int n = takeTape();
        requireOpen(t);
        return intend(sight.writesOf(t), k, n - k);
    }

    public int delete(int t) throws IllegalArgumentException, IllegalStateException, NoSuchElementException, UnsupportedOperationException {
        requireTransaction(t);
        requireRange(tape.length, 1, MOST_KEY);
        requireUp();
        int n = takeTape();
        requireOpen(t);
        return intend(sight.writesOf(t), n, OUT);
    }

    public int get(int t) throws IllegalArgumentException, IllegalStateException, NoSuchElementException {
        requireTransaction(t);
        requireRange(tape.length, 1, MOST_KEY);
        requireUp();
        int n = takeTape();
        requireOpen(t);
        probeUser(n);
        result.length = 0;
        Batch writes = sight.writesOf(t);
        int i = writes.indexOf(probe.bytes, probe.length);
        if (i >= 0) {
            return answerWritten(writes, i);
        }
        int slot = versions.seenAt(probe.bytes, probe.length, sight.momentOf(t));
        return slot < 0 ? -1 : answerStored(slot);
    }

    public int seek(int t, boolean beyond) throws IllegalArgumentException, IllegalStateException, NoSuchElementException {
        requireTransaction(t);
        requireRange(tape.length, 0, MOST_KEY);
        requireUp();
        int n = takeTape();
        requireOpen(t);
        probeUser(n);
        result.length = 0;
        Batch writes = sight.writesOf(t);
        int slot = firstStored(writes, sight.momentOf(t), beyond);
        int i = writes.firstValue(probe.bytes, probe.length, beyond);
        if (slot < 0 && i < 0) {
            return -1;
        }
        if (slot < 0 || i >= 0 && writes.compareWith(i, versions.keys, slot * KEY_ROOM, versions.keyLengths[slot]) < 0) {
            return answer(writes.data, writes.starts[i] + 1, writes.keyLengths[i] - 1);
        }
        return answer(versions.keys, slot * KEY_ROOM + 1, versions.keyLengths[slot] - 1);
    }

    public int commit(int t) throws IllegalArgumentException, IllegalStateException, NoSuchElementException, UnsupportedOperationException, IndexOutOfBoundsException {
        requireTransaction(t);
        requireUp();
        requireOpen(t);
        Batch writes = sight.writesOf(t);
        if (writes.size == 0) {
            closeTransaction(t);
            return present;
        }
        if (collides(writes, sight.momentOf(t))) {
            closeTransaction(t);
            throw new UnsupportedOperationException("a key was changed since");
        }
        requireRoom(writes, t);
        armCut(writes.size + 1);
        settle(roomMade() && stored(writes));
        sight.close(t);
        include(writes);
        return present;
    }

    public int abort(int t) throws IllegalArgumentException, IllegalStateException, NoSuchElementException {
        requireTransaction(t);
        requireUp();
        requireOpen(t);
        int n = sight.writesOf(t).size;
        closeTransaction(t);
        return n;
    }

    // ---- the care of the chip ----

    public int flush() throws IllegalStateException {
        requireUp();
        armCut(0);
        settle(flushed());
        return versions.needed(NOBODY);
    }

    public int compact(boolean whole) throws IllegalStateException {
        requireUp();
        armCut(0);
        settle(merged(whole));
        return versions.needed(NOBODY);
    }

    public int collect() throws IllegalStateException {
        requireUp();
        armCut(0);
        settle(cleared());
        return versions.needed(NOBODY);
    }

    // ---- power ----

    public int cut(boolean late, int n, int b) throws IllegalArgumentException {
        requireRange(n, 0, LATEST);
        requireRange(b, 0, LATEST);
        int waited = cutWaits ? 1 : 0;
        cutWaits = true;
        cutLate = late;
        cutPart = n;
        cutBytes = b;
        return waited;
    }

    public int mount() throws IllegalStateException {
        goDown();
        armCut(0);
        settle(mended());
        up = true;
        return present;
    }

    // ---- looking ----

    public long word(int i) throws IllegalStateException, IndexOutOfBoundsException {
        requireUp();
        if (i < 0 || i >= result.length) {
            throw new IndexOutOfBoundsException("no such byte of the result");
        }
        long sum = 0;
        for (int k = 0; k < 8; k++) {
            sum = sum << 8 | result.at(i + k);
        }
        return sum;
    }

    public int count(int what) throws IllegalArgumentException, IllegalStateException {
        requireRange(what, 0, 9);
        if (what == 0 || what == 3 || what == 5 || what == 6) {
            requireUp();
        }
        switch (what) {
            case 0:
                return present;
            case 1:
                return up ? 1 : 0;
            case 2:
                return sight.openCount();
            case 3:
                return versions.needed(NOBODY);
            case 4:
                return limit();
            case 5:
                return versions.userKeys();
            case 6:
                return tree.nodes;
            case 7:
                return tape.length;
            case 8:
                return result.length;
            default:
                return cutWaits ? 1 : 0;
        }
    }

    public int faults(int what) throws IllegalArgumentException {
        requireRange(what, 0, 5);
        switch (what) {
            case 0:
                return chip.overwritten;
            case 1:
                return log.misplaced;
            case 2:
                return log.heavyClearings;
            case 3:
                return tables.grownMerges;
            case 4:
                return layout.takenNotFree;
            default:
                return layout.noBlock;
        }
    }

    public int check() throws IllegalStateException {
        requireUp();
        if (!layout.isSound() || !tables.isSound() || !log.isSound() || !tree.isSound(versions)) {
            return -1;
        }
        return versions.userKeys() + tree.nodes;
    }

    // ---- files ----

    public int make(int dir, boolean directory) throws IllegalArgumentException, IllegalStateException, NoSuchElementException, UnsupportedOperationException, IndexOutOfBoundsException {
        requireNumber(dir);
        requireName(0, tape.length);
        requireUp();
        int n = takeTape();
        requireDirectory(dir);
        if (tree.childNamed(dir, tape.bytes, 0, n) >= 0) {
            throw new UnsupportedOperationException("the name is there");
        }
        int number = tree.leastUnused();
        if (number < 0) {
            throw new IndexOutOfBoundsException("all numbers are used");
        }
        int kind = directory ? DIRECTORY : FILE;
        change.clear();
        changeNode(number, kind, dir, 0, tape.bytes, 0, n);
        requireRoom(change, NOBODY);
        armCut(change.size + 1);
        settle(roomMade() && stored(change));
        include(change);
        tree.set(number, kind, dir, 0, tape.bytes, 0, n);
        return number;
    }

    public int remove(int dir) throws IllegalArgumentException, IllegalStateException, NoSuchElementException, UnsupportedOperationException {
        requireNumber(dir);
        requireName(0, tape.length);
        requireUp();
        int n = takeTape();
        requireDirectory(dir);
        int number = tree.childNamed(dir, tape.bytes, 0, n);
        requireThere(number);
        if (tree.childCount(number) > 0) {
            throw new UnsupportedOperationException("the directory is not empty");
        }
        change.clear();
        changeToGone(number);
        armCut(change.size + 1);
        settle(roomMade() && stored(change));
        include(change);
        tree.unset(number);
        return number;
    }

    public int rename(int from, int to, int k) throws IllegalArgumentException, IllegalStateException, NoSuchElementException, UnsupportedOperationException, IndexOutOfBoundsException {
        requireNumber(from);
        requireNumber(to);
        requireRange(k, 1, Math.min(MOST_NAME, tape.length));
        requireName(0, k);
        requireName(k, tape.length - k);
        requireUp();
        int n = takeTape() - k;
        requireDirectory(from);
        requireDirectory(to);
        int number = tree.childNamed(from, tape.bytes, 0, k);
        requireThere(number);
        int other = tree.childNamed(to, tape.bytes, k, n);
        if (other == number) {
            return number;
        }
        if (tree.isDirectory(number) && (other >= 0 || tree.isWithin(to, number)) || tree.isDirectory(other)) {
            throw new UnsupportedOperationException("a directory is in the way");
        }
        int kind = tree.kindOf(number);
        int size = tree.sizeOf(number);
        change.clear();
        changeNode(number, kind, to, size, tape.bytes, k, n);
        if (other >= 0) {
            changeToGone(other);
        }
        requireRoom(change, NOBODY);
        armCut(change.size + 1);
        settle(roomMade() && stored(change));
        include(change);
        tree.unset(other);
        tree.set(number, kind, to, size, tape.bytes, k, n);
        return number;
    }

    public int find() throws IllegalStateException, NoSuchElementException {
        requireUp();
        int n = takeTape();
        int number = 0;
        int from = 0;
        for (int i = 0; i <= n && n > 0; i++) {
            if (i == n || tape.bytes[i] == SLASH) {
                number = tree.childNamed(number, tape.bytes, from, i - from);
                requireThere(number);
                from = i + 1;
            }
        }
        return number;
    }

    public int write(int file, int at) throws IllegalArgumentException, IllegalStateException, NoSuchElementException, IndexOutOfBoundsException {
        requireNumber(file);
        requireRange(tape.length, 1, MOST_TAPE);
        requireRange(at, 0, MOST_SIZE - tape.length);
        requireUp();
        int n = takeTape();
        requireFile(file);
        int size = Math.max(tree.sizeOf(file), at + n);
        change.clear();
        for (int piece = at / PIECE_BYTES; piece < PIECES && piece * PIECE_BYTES < at + n; piece++) {
            changePiece(file, piece, at, n);
        }
        if (size != tree.sizeOf(file)) {
            changeSize(file, size);
        }
        requireRoom(change, NOBODY);
        armCut(change.size + 1);
        settle(roomMade() && stored(change));
        include(change);
        tree.setSize(file, size);
        return size;
    }

    public int read(int file, int at, int n) throws IllegalArgumentException, IllegalStateException, NoSuchElementException {
        requireNumber(file);
        requireRange(at, 0, MOST_SIZE);
        requireRange(n, 0, MOST_RESULT);
        requireUp();
        requireFile(file);
        int length = Math.max(0, Math.min(n, tree.sizeOf(file) - at));
        result.length = length;
        Row.blank(result.bytes, 0, length);
        for (int piece = at / PIECE_BYTES; piece < PIECES && piece * PIECE_BYTES < at + length; piece++) {
            readPiece(file, piece, at, length);
        }
        return length;
    }

    public int resize(int file, int n) throws IllegalArgumentException, IllegalStateException, NoSuchElementException {
        requireNumber(file);
        requireRange(n, 0, MOST_SIZE);
        requireUp();
        requireFile(file);
        int size = tree.sizeOf(file);
        if (n == size) {
            return size;
        }
        change.clear();
        changeSize(file, n);
        for (int piece = n / PIECE_BYTES; piece < PIECES; piece++) {
            shortenPiece(file, piece, n);
        }
        armCut(change.size + 1);
        settle(roomMade() && stored(change));
        include(change);
        tree.setSize(file, n);
        return size;
    }

    public int list(int dir, int i) throws IllegalArgumentException, IllegalStateException, NoSuchElementException {
        requireNumber(dir);
        requireUp();
        requireDirectory(dir);
        int number = tree.childRanked(dir, i);
        requireThere(number);
        answer(tree.names, number * MOST_NAME, tree.nameLengthOf(number));
        return number;
    }

    public int about(int number, int what) throws IllegalArgumentException, IllegalStateException, NoSuchElementException {
        requireNumber(number);
        requireRange(what, 0, 3);
        requireUp();
        if (tree.kindOf(number) == 0) {
            throw new NoSuchElementException("there is none of this number");
        }
        switch (what) {
            case 0:
                return tree.kindOf(number);
            case 1:
                return tree.isFile(number) ? tree.sizeOf(number) : tree.childCount(number);
            case 2:
                return tree.parentOf(number);
            default:
                return keptPieces(number);
        }
    }

    // ---- what calls ask for ----

    private void requireRange(int v, int least, int most) {
        if (v < least || v > most) {
            throw new IllegalArgumentException("a number or the tape's length is out of range");
        }
    }

    private void requireTransaction(int t) {
        requireRange(t, 0, TRANSACTIONS - 1);
    }

    private void requireNumber(int number) {
        requireRange(number, 0, MOST_NUMBER);
    }

    private void requireName(int from, int n) {
        requireRange(n, 1, MOST_NAME);
        for (int i = from; i < from + n; i++) {
            if (tape.at(i) == SLASH) {
                throw new IllegalArgumentException("a name has a slash");
            }
        }
    }

    private void requireUp() {
        if (!up) {
            throw new IllegalStateException("the store is down");
        }
    }

    private void requireTapeRoom(int n) {
        if (tape.length + n > MOST_TAPE) {
            throw new IndexOutOfBoundsException("the tape is full");
        }
    }

    private void requireOpen(int t) {
        if (!sight.isOpen(t)) {
            throw new NoSuchElementException("the transaction is not open");
        }
    }

    private void requireDirectory(int dir) {
        if (!tree.isDirectory(dir)) {
            throw new NoSuchElementException("no directory");
        }
    }

    private void requireFile(int file) {
        if (!tree.isFile(file)) {
            throw new NoSuchElementException("no file");
        }
    }

    private void requireThere(int number) {
        if (number < 0) {
            throw new NoSuchElementException("no such name");
        }
    }

    private void requireRoom(Batch batch, int closing) {
        if (versions.neededWith(batch, closing, present) > limit()) {
            throw new IndexOutOfBoundsException("more would be needed than the limit");
        }
    }

    private int limit() {
        return blocks * LIMIT_OF_BLOCK;
    }

    // ---- tape, result and keys ----

    /** The tape's bytes stay readable until the next feed or fill; only its length goes. */
    private int takeTape() {
        int n = tape.length;
        tape.length = 0;
        return n;
    }

    private void probeUser(int n) {
        probe.bytes[0] = USER;
        Row.copy(tape.bytes, 0, probe.bytes, 1, n);
        probe.length = n + 1;
    }

    private void probePiece(int file, int piece) {
        probe.bytes[0] = PIECE;
        probe.bytes[1] = (byte) file;
        probe.bytes[2] = (byte) piece;
        probe.length = 3;
    }

    private void probeNode(int number) {
        probe.bytes[0] = NODE;
        probe.bytes[1] = (byte) number;
        probe.length = 2;
    }

    private int answer(byte[] from, int at, int n) {
        Row.copy(from, at, result.bytes, 0, n);
        result.length = n;
        return n;
    }

    private int answerWritten(Batch writes, int i) {
        if (writes.lengths[i] < 0) {
            return -1;
        }
        return answer(writes.data, writes.starts[i] + writes.keyLengths[i], writes.lengths[i]);
    }

    private int answerStored(int slot) {
        log.watch(slot);
        int n = Math.min(versions.lengths[slot], MOST_RESULT);
        chip.copyOut(versions.valueAddress(slot), result.bytes, 0, n);
        result.length = n;
        return n;
    }

    // ---- transactions inside ----

    private int intend(Batch writes, int k, int length) {
        probeUser(k);
        int i = writes.indexOf(probe.bytes, probe.length);
        int keys = writes.size + (i < 0 ? 1 : 0);
        int bytes = writes.userBytes() - writes.userBytesOf(i) + k + Math.max(length, 0);
        if (keys > MOST_WRITES || bytes > MOST_WRITTEN) {
            throw new UnsupportedOperationException("too many writes");
        }
        writes.drop(i);
        int value = writes.add(probe.bytes, probe.length, length);
        Row.copy(tape.bytes, k, writes.data, value, length);
        return writes.size;
    }

    private boolean collides(Batch writes, int seen) {
        for (int i = 0; i < writes.size; i++) {
            int slot = versions.newestOf(writes.data, writes.starts[i], writes.keyLengths[i]);
            if (slot >= 0 && versions.moments[slot] > seen) {
                return true;
            }
        }
        return false;
    }

    private void closeTransaction(int t) {
        sight.close(t);
        versions.purge();
    }

    /** The first stored key from the probe on that has a value at the moment and that the writes do not speak of. */
    private int firstStored(Batch writes, int moment, boolean beyond) {
        int start = versions.from(probe.bytes, 0, probe.length, beyond ? -1 : LATEST);
        for (int p = start; p < versions.size; p++) {
            int slot = versions.order[p];
            if (!versions.isUser(slot)) {
                return -1;
            }
            if (versions.isSeen(p, moment) && versions.lengths[slot] >= 0
                    && writes.indexOfKey(versions.keys, slot * KEY_ROOM, versions.keyLengths[slot]) < 0) {
                return slot;
            }
        }
        return -1;
    }

    // ---- files inside ----

    private int pieceSlot(int file, int piece) {
        probePiece(file, piece);
        return versions.seenAt(probe.bytes, probe.length, LATEST);
    }

    private int keptPieces(int number) {
        int n = 0;
        for (int piece = 0; piece < PIECES; piece++) {
            if (pieceSlot(number, piece) >= 0) {
                n++;
            }
        }
        return n;
    }

    private void readPiece(int file, int piece, int at, int n) {
        int slot = pieceSlot(file, piece);
        if (slot < 0) {
            return;
        }
        log.watch(slot);
        int start = piece * PIECE_BYTES;
        int from = Math.max(at, start);
        int to = Math.min(at + n, start + versions.lengths[slot]);
        chip.copyOut(versions.valueAddress(slot) + from - start, result.bytes, from - at, to - from);
    }

    private void changeNode(int number, int kind, int dir, int size, byte[] name, int at, int n) {
        probeNode(number);
        int value = change.add(probe.bytes, probe.length, NODE_HEAD + n);
        Row.number(change.data, value, 1, kind);
        Row.number(change.data, value + 1, 1, dir);
        Row.number(change.data, value + 2, 2, size);
        Row.copy(name, at, change.data, value + NODE_HEAD, n);
    }

    private void changeSize(int file, int size) {
        changeNode(file, FILE, tree.parentOf(file), size, tree.names, file * MOST_NAME, tree.nameLengthOf(file));
    }

    /** Each piece goes with a record of its own, for its number may be used anew. */
    private void changeToGone(int number) {
        probeNode(number);
        change.add(probe.bytes, probe.length, OUT);
        for (int piece = 0; piece < PIECES; piece++) {
            if (pieceSlot(number, piece) >= 0) {
                change.add(probe.bytes, probe.length, OUT);
            }
        }
    }

    private void changePiece(int file, int piece, int at, int n) {
        int start = piece * PIECE_BYTES;
        int from = Math.max(at, start);
        int to = Math.min(at + n, start + PIECE_BYTES);
        int slot = pieceSlot(file, piece);
        int old = slot < 0 ? 0 : versions.lengths[slot];
        int kept = Math.max(old, to - start);
        int value = change.add(probe.bytes, probe.length, kept);
        Row.blank(change.data, value, kept);
        if (slot >= 0) {
            log.watch(slot);
            chip.copyOut(versions.valueAddress(slot), change.data, value, old);
        }
        Row.copy(tape.bytes, from - at, change.data, value + from - start, to - from);
    }

    private void shortenPiece(int file, int piece, int size) {
        int slot = pieceSlot(file, piece);
        int left = Math.max(0, size - piece * PIECE_BYTES);
        if (slot < 0 || versions.lengths[slot] <= left) {
            return;
        }
        if (left == 0) {
            change.add(probe.bytes, probe.length, OUT);
            return;
        }
        log.watch(slot);
        int value = change.add(probe.bytes, probe.length, left);
        chip.copyOut(versions.valueAddress(slot), change.data, value, left);
    }

    // ---- writing, and the power ----

    /** Parts 0: the call's parts are not known before, the cut counts them as they come. */
    private void armCut(int parts) {
        if (cutWaits && !cutLate) {
            chip.arm(parts > 0 ? cutPart % parts : cutPart, cutBytes);
        }
    }

    // The chip throws when the power fails. What is named as done here answers that instead, so that the call may
    // go down in good order.

    /** Done before a change is written: a change must never be without blocks in its midst. */
    private boolean roomMade() {
        try {
            if (lacksReserve()) {
                log.renew(present);
            }
            if (versions.aloneCount >= SPILL_AT) {
                tables.spill(false, present);
            }
            keepTables();
            return true;
        } catch (IllegalStateException e) {
            return false;
        }
    }

    private boolean stored(Batch batch) {
        try {
            log.store(batch, present);
            return true;
        } catch (IllegalStateException e) {
            return false;
        }
    }

    private boolean flushed() {
        try {
            if (lacksReserve()) {
                log.renew(present);
            }
            tables.spill(false, present);
            keepTables();
            return true;
        } catch (IllegalStateException e) {
            return false;
        }
    }

    private boolean merged(boolean whole) {
        try {
            if (lacksReserve()) {
                log.renew(present);
            }
            if (whole) {
                tables.merge(0, layout.runCount, LAST_LEVEL, present);
            } else {
                tables.mergeStep(present);
            }
            return true;
        } catch (IllegalStateException e) {
            return false;
        }
    }

    private boolean cleared() {
        try {
            if (lacksReserve()) {
                log.renew(present);
            }
            keepTables();
            log.clearOne(present);
            return true;
        } catch (IllegalStateException e) {
            return false;
        }
    }

    /**
     * Makes all that is in memory from the chip, then writes a table of what only the log told and a new state.
     * The old state stays the valid one until the new one is whole, so this may be cut and done again.
     */
    private boolean mended() {
        try {
            present = layout.load();
            tables.loadAll();
            present = log.replay(present);
            versions.purge();
            log.watchAll();
            log.sweep();
            if (lacksReserve()) {
                log.renew(present);
            }
            tables.spill(false, present);
            tree.load(versions, chip);
            return true;
        } catch (IllegalStateException e) {
            return false;
        }
    }

    /** Every call that writes meets the cut that waits, at the latest behind all that it did. */
    private void settle(boolean done) {
        boolean fails = cutWaits || !done;
        cutWaits = false;
        chip.disarm();
        if (fails) {
            goDown();
            throw new IllegalStateException("the power fails");
        }
    }

    /** All that is in memory is lost, so that mount has nothing but the chip. */
    private void goDown() {
        up = false;
        present = 0;
        tape.length = 0;
        result.length = 0;
        sight.closeAll();
        versions.clear();
        tree.clear();
        layout.clear();
    }

    private void include(Batch batch) {
        present++;
        versions.include(batch, present);
        versions.purge();
    }

    /**
     * Whether all is to be renewed before a call writes, because the call might leave fewer blocks free than a later
     * renewal may take. So each call that writes begins with this, also the mount behind one that was cut.
     *
     * A renewal takes less than three eighths of the blocks: a record, and likewise its entry in a table, is shorter
     * than what it counts for NEEDED, which is at most an eighth of the chip. Two blocks of a log written anew, one
     * behind the other, hold more than one block's bytes, so the log has less than two eighths; the table has one.
     *
     * A call takes blocks for what is in memory alone, then for a merge of at most that and all tables (which lets
     * those go), and for the log. Behind a renewal this fits beside the reserve: then nothing is in memory alone, and
     * the one table has an eighth of the blocks at most.
     */
    private boolean lacksReserve() {
        int reserve = blocks / 8 * 3;
        int spilled = tables.aloneBlocks();
        int taken = spilled + spilled + layout.tableBlocks() + CALL_BLOCKS;
        return layout.freeBlocks() < reserve + taken || layout.runCount > MOST_RUNS - CALL_RUNS;
    }

    private void keepTables() {
        for (int level = 0; level <= LAST_LEVEL; level++) {
            int first = layout.firstRun(level);
            int last = layout.firstRun(level + 1);
            if (last - first >= LEVEL_RUNS) {
                tables.merge(first, last, Math.min(level + 1, LAST_LEVEL), present);
            }
        }
        if (layout.runCount > 1 && (layout.tableBlocks() > blocks / 4 || layout.tableEntries() > blocks * 14)) {
            tables.merge(0, layout.runCount, LAST_LEVEL, present);
        }
    }

    /** A row of bytes with a length, used again and again; and what is done with rows, none of it beyond their ends. */
    static final class Row {
        final byte[] bytes;
        int length = 0;

        Row(int most) {
            bytes = new byte[Math.max(most, 1)];
        }

        int at(int i) {
            return i >= 0 && i < length && i < bytes.length ? bytes[i] & 255 : 0;
        }

        void add(int v) {
            if (length >= 0 && length < bytes.length) {
                bytes[length] = (byte) v;
                length++;
            }
        }

        void addInt(int v) {
            add(v >> 24);
            add(v >> 16);
            add(v >> 8);
            add(v);
        }

        static void copy(byte[] from, int at, byte[] to, int point, int n) {
            if (n > 0 && at >= 0 && point >= 0 && at <= from.length - n && point <= to.length - n) {
                System.arraycopy(from, at, to, point, n);
            }
        }

        static void blank(byte[] row, int at, int n) {
            if (n > 0 && at >= 0 && at <= row.length - n) {
                Arrays.fill(row, at, at + n, (byte) 0);
            }
        }

        /** Puts a number, its highest byte first. */
        static void number(byte[] row, int at, int n, int v) {
            for (int i = 0; i < n; i++) {
                int place = at + n - 1 - i;
                if (place >= 0 && place < row.length) {
                    row[place] = (byte) (v >> 8 * i);
                }
            }
        }

        static int compare(byte[] a, int i, int n, byte[] b, int j, int m) {
            int shared = Math.min(n, m);
            if (i >= 0 && j >= 0 && shared <= a.length - i && shared <= b.length - j) {
                for (int k = 0; k < shared; k++) {
                    int difference = (a[i + k] & 255) - (b[j + k] & 255);
                    if (difference != 0) {
                        return difference;
                    }
                }
            }
            return n - m;
        }
    }

    /** The flash chip, with a watch on bytes that are written twice, and the power that may fail in any part. */
    static final class Chip {
        final byte[] cells;
        /** How far each block was written since it was last erased as a whole. */
        final int[] tops;
        int partsLeft = -1;
        int bytesLeft = 0;
        int overwritten = 0;

        Chip(int blocks) {
            int n = Math.max(blocks, 1);
            cells = new byte[n * BLOCK];
            tops = new int[n];
            Arrays.fill(cells, (byte) 255);
        }

        void arm(int parts, int bytes) {
            partsLeft = parts;
            bytesLeft = bytes;
        }

        void disarm() {
            partsLeft = -1;
        }

        /** How much of a part is written; less than all of it where the power fails. */
        int granted(int length) {
            if (partsLeft < 0) {
                return length;
            }
            partsLeft--;
            return partsLeft >= 0 ? length : Math.min(bytesLeft, length - 1);
        }

        void program(int address, byte[] from, int at, int length) {
            int block = address / BLOCK;
            int offset = address % BLOCK;
            if (address < 0 || block >= tops.length || length < 1 || length > BLOCK - offset) {
                return;
            }
            int n = granted(length);
            overwritten += Math.max(0, Math.min(tops[block] - offset, n));
            Row.copy(from, at, cells, address, n);
            tops[block] = Math.max(tops[block], offset + n);
            if (n < length) {
                throw new IllegalStateException("the power fails");
            }
        }

        void erase(int block) {
            if (block < 0 || block >= tops.length) {
                return;
            }
            int n = granted(BLOCK);
            Arrays.fill(cells, block * BLOCK, block * BLOCK + n, (byte) 255);
            if (n < BLOCK) {
                throw new IllegalStateException("the power fails");
            }
            tops[block] = 0;
        }

        int at(int address) {
            return address >= 0 && address < cells.length ? cells[address] & 255 : 255;
        }

        int number(int address, int n) {
            int sum = 0;
            for (int i = address; i < address + n; i++) {
                sum = sum << 8 | (i >= 0 && i < cells.length ? cells[i] & 255 : 255);
            }
            return sum;
        }

        void copyOut(int address, byte[] to, int point, int n) {
            Row.copy(cells, address, to, point, n);
        }
    }

    /** The transactions: which are open, what moment each sees, and what it writes. */
    static final class Sight {
        final boolean[] open = new boolean[TRANSACTIONS];
        final int[] moments = new int[TRANSACTIONS];
        final Batch[] writes = new Batch[TRANSACTIONS];

        Sight() {
            for (int t = 0; t < TRANSACTIONS; t++) {
                writes[t] = new Batch();
            }
        }

        int leastClosed() {
            for (int t = 0; t < TRANSACTIONS; t++) {
                if (!open[t]) {
                    return t;
                }
            }
            return -1;
        }

        int openCount() {
            int n = 0;
            for (int t = 0; t < TRANSACTIONS; t++) {
                if (open[t]) {
                    n++;
                }
            }
            return n;
        }

        boolean isOpen(int t) {
            return t >= 0 && t < TRANSACTIONS && open[t];
        }

        int momentOf(int t) {
            return isOpen(t) ? moments[t] : 0;
        }

        Batch writesOf(int t) {
            return writes[t >= 0 && t < TRANSACTIONS ? t : 0];
        }

        void start(int t, int moment) {
            if (t >= 0 && t < TRANSACTIONS) {
                open[t] = true;
                moments[t] = moment;
                writes[t].clear();
            }
        }

        void close(int t) {
            if (t >= 0 && t < TRANSACTIONS) {
                open[t] = false;
            }
        }

        void closeAll() {
            for (int t = 0; t < TRANSACTIONS; t++) {
                open[t] = false;
            }
        }

        boolean anyBefore(int moment, int but) {
            for (int t = 0; t < TRANSACTIONS; t++) {
                if (open[t] && t != but && moments[t] < moment) {
                    return true;
                }
            }
            return false;
        }

        boolean anyWithin(int from, int to, int but) {
            for (int t = 0; t < TRANSACTIONS; t++) {
                if (open[t] && t != but && moments[t] >= from && moments[t] < to) {
                    return true;
                }
            }
            return false;
        }
    }

    /** Changes that are done together: keys, each with a value behind it or taken out. */
    static final class Batch {
        final byte[] data = new byte[MOST_WRITTEN + 100];
        final int[] starts = new int[MOST_CHANGES];
        final int[] keyLengths = new int[MOST_CHANGES];
        final int[] lengths = new int[MOST_CHANGES];
        /** Where the log holds each, once it is stored. */
        final int[] places = new int[MOST_CHANGES];
        int size = 0;
        int used = 0;

        void clear() {
            size = 0;
            used = 0;
        }

        int indexOf(byte[] key, int n) {
            return indexOfKey(key, 0, n);
        }

        int indexOfKey(byte[] key, int at, int n) {
            for (int i = 0; i < size; i++) {
                if (keyLengths[i] == n && compareWith(i, key, at, n) == 0) {
                    return i;
                }
            }
            return -1;
        }

        int compareWith(int i, byte[] key, int at, int n) {
            return i < 0 || i >= size ? 0 : Row.compare(data, starts[i], keyLengths[i], key, at, n);
        }

        /** The first key with a value that is not before the given one. */
        int firstValue(byte[] key, int n, boolean beyond) {
            int first = -1;
            for (int i = 0; i < size; i++) {
                int order = compareWith(i, key, 0, n);
                if (lengths[i] >= 0 && (order > 0 || order == 0 && !beyond)
                        && (first < 0 || compareWith(first, data, starts[i], keyLengths[i]) > 0)) {
                    first = i;
                }
            }
            return first;
        }

        /** Without the byte before each key that tells whose it is. */
        int userBytes() {
            return used - size;
        }

        int userBytesOf(int i) {
            return i < 0 || i >= size ? 0 : keyLengths[i] - 1 + Math.max(lengths[i], 0);
        }

        void drop(int i) {
            if (i < 0 || i >= size) {
                return;
            }
            int n = keyLengths[i] + Math.max(lengths[i], 0);
            Row.copy(data, starts[i] + n, data, starts[i], used - starts[i] - n);
            for (int k = i; k + 1 < size; k++) {
                starts[k] = starts[k + 1] - n;
                keyLengths[k] = keyLengths[k + 1];
                lengths[k] = lengths[k + 1];
            }
            used -= n;
            size--;
        }

        /** Answers where the value's bytes are to be put, -1 if there is no room. */
        int add(byte[] key, int n, int length) {
            if (size >= MOST_CHANGES || n + Math.max(length, 0) > data.length - used) {
                return -1;
            }
            Row.copy(key, 0, data, used, n);
            starts[size] = used;
            keyLengths[size] = n;
            lengths[size] = length;
            size++;
            used += n + Math.max(length, 0);
            return used - Math.max(length, 0);
        }
    }

    /**
     * What is known in memory: each version of each key that is needed, in the keys' order, the newest first; and
     * the newest that were taken out, while no table says so. ALONE are those that no table on the chip tells of.
     */
    static final class Versions {
        final Sight sight;
        final byte[] keys;
        final int[] keyLengths;
        final int[] moments;
        final int[] places;
        final int[] lengths;
        final boolean[] alone;
        final int[] order;
        final int[] spare;
        int size = 0;
        int spares = 0;
        int aloneCount = 0;

        Versions(int most, Sight sight) {
            int n = Math.max(most, 1);
            this.sight = sight;
            keys = new byte[n * KEY_ROOM];
            keyLengths = new int[n];
            moments = new int[n];
            places = new int[n];
            lengths = new int[n];
            alone = new boolean[n];
            order = new int[n];
            spare = new int[n];
            spares = n;
            for (int i = 0; i < n; i++) {
                spare[i] = n - 1 - i;
            }
        }

        void clear() {
            for (int p = 0; p < size; p++) {
                release(order[p]);
            }
            size = 0;
        }

        boolean isUser(int slot) {
            return keys[slot * KEY_ROOM] == USER;
        }

        int valueAddress(int slot) {
            return places[slot] + RECORD_HEAD + keyLengths[slot];
        }

        boolean sameKey(int a, int b) {
            return keyLengths[a] == keyLengths[b]
                    && Row.compare(keys, a * KEY_ROOM, keyLengths[a], keys, b * KEY_ROOM, keyLengths[b]) == 0;
        }

        boolean hasKey(int slot, byte[] key, int at, int n) {
            return keyLengths[slot] == n && Row.compare(keys, slot * KEY_ROOM, n, key, at, n) == 0;
        }

        /** The first position whose key is behind the given one, or is the same at the moment or before. */
        int from(byte[] key, int at, int n, int moment) {
            int low = 0;
            int high = size;
            for (int step = 0; step < 32 && low < high; step++) {
                int middle = (low + high) / 2;
                int slot = order[middle];
                int difference = Row.compare(keys, slot * KEY_ROOM, keyLengths[slot], key, at, n);
                if (difference < 0 || difference == 0 && moments[slot] > moment) {
                    low = middle + 1;
                } else {
                    high = middle;
                }
            }
            return low;
        }

        int newestOf(byte[] key, int at, int n) {
            int p = from(key, at, n, LATEST);
            return p < size && hasKey(order[p], key, at, n) ? order[p] : -1;
        }

        /** The version with the value that the key has at the moment, or -1. */
        int seenAt(byte[] key, int n, int moment) {
            int p = from(key, 0, n, moment);
            if (p >= size) {
                return -1;
            }
            int slot = order[p];
            return hasKey(slot, key, 0, n) && lengths[slot] >= 0 ? slot : -1;
        }

        boolean isSeen(int p, int moment) {
            if (p < 0 || p >= size || moments[order[p]] > moment) {
                return false;
            }
            return isNewest(p) || moments[order[p - 1]] > moment;
        }

        boolean isNewest(int p) {
            return p <= 0 || p >= size || !sameKey(order[p - 1], order[p]);
        }

        private int insert(int p, byte[] key, int at, int n) {
            if (spares <= 0 || p < 0 || p > size || size >= order.length || n > KEY_ROOM) {
                return -1;
            }
            spares--;
            int slot = spare[spares];
            System.arraycopy(order, p, order, p + 1, size - p);
            order[p] = slot;
            size++;
            Row.copy(key, at, keys, slot * KEY_ROOM, n);
            keyLengths[slot] = n;
            return slot;
        }

        private void release(int slot) {
            setAlone(slot, false);
            if (spares < spare.length) {
                spare[spares] = slot;
                spares++;
            }
        }

        private void setAlone(int slot, boolean now) {
            if (alone[slot] != now) {
                alone[slot] = now;
                aloneCount += now ? 1 : -1;
            }
        }

        void include(Batch batch, int moment) {
            for (int i = 0; i < batch.size; i++) {
                int p = from(batch.data, batch.starts[i], batch.keyLengths[i], LATEST);
                int slot = insert(p, batch.data, batch.starts[i], batch.keyLengths[i]);
                if (slot >= 0) {
                    moments[slot] = moment;
                    places[slot] = batch.places[i];
                    lengths[slot] = batch.lengths[i];
                    setAlone(slot, true);
                }
            }
        }

        /** While mending there is one version of a key, the newest that was met. */
        void meet(byte[] key, int n, int moment, int place, int length, boolean inLog) {
            int p = from(key, 0, n, LATEST);
            int slot = p < size && hasKey(order[p], key, 0, n) ? order[p] : -1;
            if (slot >= 0 && moments[slot] >= moment) {
                return;
            }
            if (slot < 0) {
                slot = insert(p, key, 0, n);
            }
            if (slot >= 0) {
                moments[slot] = moment;
                places[slot] = place;
                lengths[slot] = length;
                setAlone(slot, inLog);
            }
        }

        void relocate(int slot, int place) {
            places[slot] = place;
            setAlone(slot, true);
        }

        void allInTables() {
            for (int p = 0; p < size; p++) {
                setAlone(order[p], false);
            }
        }

        static int weight(int kind, int keyLength, int length) {
            int bytes = Math.max(length, 0);
            if (kind == USER) {
                return 24 + keyLength - 1 + bytes;
            }
            return kind == NODE ? 62 + bytes - NODE_HEAD : 27 + bytes;
        }

        int weightOf(int slot) {
            return weight(keys[slot * KEY_ROOM], keyLengths[slot], lengths[slot]);
        }

        /** Whether NEEDED counts it; newer is the moment of the version that came behind it. */
        boolean isNeeded(int slot, boolean newest, int newer, int but) {
            boolean out = lengths[slot] < 0;
            if (!isUser(slot)) {
                return newest && !out;
            }
            if (out && !sight.anyBefore(moments[slot], but)) {
                return false;
            }
            return newest || sight.anyWithin(moments[slot], newer, but);
        }

        /**
         * Lets go what is not needed. One that was taken out may go though it is seen, but only when nobody sees what
         * was before it; then all that is older goes in the same pass, so that nothing comes to light again.
         */
        void purge() {
            int kept = 0;
            int before = -1;
            for (int p = 0; p < size; p++) {
                int slot = order[p];
                boolean newest = before < 0 || !sameKey(before, slot);
                int newer = newest ? 0 : moments[before];
                if (isNeeded(slot, newest, newer, NOBODY) || newest && alone[slot] && lengths[slot] < 0) {
                    order[kept] = slot;
                    kept++;
                } else {
                    release(slot);
                }
                before = slot;
            }
            size = kept;
        }

        int needed(int but) {
            int sum = 0;
            int before = -1;
            for (int p = 0; p < size; p++) {
                int slot = order[p];
                boolean newest = before < 0 || !sameKey(before, slot);
                if (isNeeded(slot, newest, newest ? 0 : moments[before], but)) {
                    sum += weightOf(slot);
                }
                before = slot;
            }
            return sum;
        }

        /** What would be needed behind the batch, with one transaction closed. */
        int neededWith(Batch batch, int closing, int present) {
            int sum = needed(closing);
            for (int i = 0; i < batch.size; i++) {
                int start = batch.starts[i];
                int slot = newestOf(batch.data, start, batch.keyLengths[i]);
                if (slot >= 0 && isNeeded(slot, true, 0, closing)) {
                    sum -= weightOf(slot);
                }
                if (slot >= 0 && isNeeded(slot, false, present + 1, closing)) {
                    sum += weightOf(slot);
                }
                int kind = batch.data[start];
                if (batch.lengths[i] >= 0 || kind == USER && sight.anyBefore(present + 1, closing)) {
                    sum += weight(kind, batch.keyLengths[i], batch.lengths[i]);
                }
            }
            return sum;
        }

        int userKeys() {
            int n = 0;
            for (int p = 0; p < size; p++) {
                if (isUser(order[p]) && lengths[order[p]] >= 0 && isNewest(p)) {
                    n++;
                }
            }
            return n;
        }
    }

    /** A table: a stream of entries over blocks. */
    static final class Run {
        final int[] ids = new int[RUN_BLOCKS];
        int idCount = 0;
        int level = 0;
        int length = 0;
        int entries = 0;

        void clear(int newLevel) {
            idCount = 0;
            level = newLevel;
            length = 0;
            entries = 0;
        }

        void add(int block, int n) {
            if (idCount < RUN_BLOCKS) {
                ids[idCount] = block;
                idCount++;
                length += n;
            }
        }

        int addressOf(int offset) {
            int i = offset / BLOCK;
            return offset < 0 || i >= idCount ? -1 : ids[i] * BLOCK + offset % BLOCK;
        }
    }

    /** Goes over the entries of a table. */
    static final class Cursor {
        final Chip chip;
        final byte[] key = new byte[KEY_ROOM];
        Run run = null;
        int offset = 0;
        int keyLength = 0;
        int moment = 0;
        int place = 0;
        int length = 0;
        boolean ended = true;

        Cursor(Chip chip) {
            this.chip = chip;
        }

        void open(Run table) {
            run = table;
            offset = 0;
        }

        void advance() {
            ended = run == null || offset >= run.length;
            if (ended) {
                return;
            }
            keyLength = Math.min(next(1), KEY_ROOM);
            for (int i = 0; i < keyLength; i++) {
                key[i] = (byte) next(1);
            }
            moment = next(4);
            place = next(3);
            length = next(2);
            if (length == OUT_ON_CHIP) {
                length = OUT;
            }
        }

        private int next(int n) {
            int sum = 0;
            for (int i = 0; i < n; i++) {
                sum = sum << 8 | (run == null ? 0 : chip.at(run.addressOf(offset)));
                offset++;
            }
            return sum;
        }
    }

    /** Which block is what. What goes out of the lists is free only once a state without it is on the chip. */
    static final class Layout {
        final Chip chip;
        final int blocks;
        final boolean[] used;
        /** The blocks of the log, in the order in which they were begun. */
        final int[] logs;
        final Run[] runs = new Run[MOST_RUNS];
        final byte[] page = new byte[BLOCK];
        int logCount = 0;
        /** So many of the last logs are to be replayed, the first of them from freshFrom on. */
        int fresh = 0;
        int freshFrom = 0;
        /** Whether the last log takes records, and where the next one goes. */
        boolean writing = false;
        int top = 0;
        int runCount = 0;
        int master = 0;
        int masterTop = BLOCK;
        int sequence = 0;
        int turn = MASTERS;
        int takenNotFree = 0;
        int noBlock = 0;

        Layout(Chip chip, int blocks) {
            int n = Math.max(blocks, 1);
            this.chip = chip;
            this.blocks = n;
            used = new boolean[n];
            logs = new int[n];
            for (int i = 0; i < MOST_RUNS; i++) {
                runs[i] = new Run();
            }
            noteUse();
        }

        /**
         * As behind a failed power: nobody knows how far the last log and the last states were written, so neither
         * takes more.
         */
        void clear() {
            logCount = 0;
            fresh = 0;
            freshFrom = 0;
            writing = false;
            top = 0;
            runCount = 0;
            master = 0;
            masterTop = BLOCK;
            sequence = 0;
        }

        // -- blocks --

        private void noteUse() {
            for (int b = 0; b < blocks; b++) {
                used[b] = b < MASTERS;
            }
            for (int i = 0; i < logCount; i++) {
                setUsed(logs[i]);
            }
            for (int r = 0; r < runCount; r++) {
                for (int i = 0; i < runs[r].idCount; i++) {
                    setUsed(runs[r].ids[i]);
                }
            }
        }

        private void setUsed(int block) {
            if (block >= 0 && block < blocks) {
                used[block] = true;
            }
        }

        private int uses(int block) {
            int n = block < MASTERS ? 1 : 0;
            for (int i = 0; i < logCount; i++) {
                n += logs[i] == block ? 1 : 0;
            }
            for (int r = 0; r < runCount; r++) {
                for (int i = 0; i < runs[r].idCount; i++) {
                    n += runs[r].ids[i] == block ? 1 : 0;
                }
            }
            return n;
        }

        int freeBlocks() {
            int n = 0;
            for (int b = 0; b < blocks; b++) {
                n += used[b] ? 0 : 1;
            }
            return n;
        }

        /** In turn, that no block wears out before the others. */
        int take() {
            for (int i = 0; i < blocks; i++) {
                int block = Math.floorMod(turn + i, Math.max(blocks, 1));
                if (!used[block]) {
                    takenNotFree += uses(block) > 0 ? 1 : 0;
                    used[block] = true;
                    turn = block + 1;
                    return block;
                }
            }
            noBlock++;
            throw new IllegalStateException("no block is free");
        }

        boolean isSound() {
            for (int b = 0; b < blocks; b++) {
                if (uses(b) > 1 || used[b] != uses(b) > 0) {
                    return false;
                }
            }
            return true;
        }

        // -- the log's blocks --

        boolean fits(int n) {
            return writing && n <= BLOCK - top;
        }

        int point() {
            return logCount > 0 ? logs[logCount - 1] * BLOCK + top : -1;
        }

        void addLog(int block) {
            if (logCount < logs.length) {
                logs[logCount] = block;
                logCount++;
                freshFrom = fresh == 0 ? 0 : freshFrom;
                fresh++;
                writing = true;
                top = 0;
            }
        }

        void dropLog(int i) {
            if (i >= 0 && i < logCount) {
                System.arraycopy(logs, i + 1, logs, i, logCount - 1 - i);
                logCount--;
            }
        }

        boolean isWriting(int i) {
            return writing && i == logCount - 1;
        }

        /** The last log takes no more records. */
        void seal() {
            writing = false;
            fresh = 0;
        }

        /** All records up to here are told by tables. */
        void passLog() {
            fresh = writing ? 1 : 0;
            freshFrom = writing ? top : 0;
        }

        int logOf(int place) {
            for (int i = 0; i < logCount && place >= 0; i++) {
                if (logs[i] == place / BLOCK) {
                    return i;
                }
            }
            return -1;
        }

        boolean isFresh(int place) {
            int first = logCount - fresh;
            int i = logOf(place);
            return i > first || i >= 0 && i == first && place % BLOCK >= freshFrom;
        }

        // -- the tables, the newest first, their levels rising --

        int firstRun(int level) {
            int i = 0;
            while (i < runCount && runs[i].level < level) {
                i++;
            }
            return i;
        }

        int tableBlocks() {
            int n = 0;
            for (int r = 0; r < runCount; r++) {
                n += runs[r].idCount;
            }
            return n;
        }

        int tableEntries() {
            int n = 0;
            for (int r = 0; r < runCount; r++) {
                n += runs[r].entries;
            }
            return n;
        }

        /** A table to be written; it is none of the list before it is put in. */
        Run draft(int level) {
            if (runCount >= MOST_RUNS) {
                throw new IllegalStateException("too many tables");
            }
            Run run = runs[runCount];
            run.clear(level);
            return run;
        }

        /** The draft comes in place of the tables from first on, before last. */
        void putDraft(int first, int last) {
            if (first < 0 || last < first || last > runCount || runCount >= MOST_RUNS) {
                return;
            }
            Run draft = runs[runCount];
            int next = first;
            if (draft.length > 0) {
                moveRun(runCount, first);
                runCount++;
                next = first + 1;
            }
            for (int i = 0; i < last - first; i++) {
                moveRun(next, runCount - 1);
                runCount--;
            }
        }

        private void moveRun(int from, int to) {
            if (from < 0 || from >= MOST_RUNS || to < 0 || to >= MOST_RUNS) {
                return;
            }
            Run run = runs[from];
            for (int i = from; i < to; i++) {
                runs[i] = runs[i + 1];
            }
            for (int i = from; i > to; i--) {
                runs[i] = runs[i - 1];
            }
            runs[to] = run;
        }

        // -- the state on the chip --

        /** Into the other of the two blocks, if this one is full; the last state here stays until that is whole. */
        void save(int present) {
            int n = describe(present);
            if (n <= BLOCK - masterTop) {
                chip.program(master * BLOCK + masterTop, page, MASTER_HEAD, n);
                masterTop += n;
            } else {
                master = 1 - master;
                sequence++;
                Row.number(page, 0, 1, MASTER);
                Row.number(page, 1, 4, sequence);
                chip.erase(master);
                chip.program(master * BLOCK, page, 0, MASTER_HEAD + n);
                masterTop = MASTER_HEAD + n;
            }
            noteUse();
        }

        private int describe(int present) {
            int at = MASTER_HEAD;
            Row.number(page, at, 1, STATE);
            Row.number(page, at + 3, 4, present);
            Row.number(page, at + 7, 1, fresh);
            Row.number(page, at + 8, 2, freshFrom);
            Row.number(page, at + 10, 1, logCount);
            at += 11;
            for (int i = 0; i < logCount; i++) {
                Row.number(page, at + i, 1, logs[i]);
            }
            at += logCount;
            Row.number(page, at, 1, runCount);
            at++;
            for (int r = 0; r < runCount; r++) {
                Run run = runs[r];
                Row.number(page, at, 1, run.level);
                Row.number(page, at + 1, 3, run.length);
                Row.number(page, at + 4, 2, run.entries);
                Row.number(page, at + 6, 1, run.idCount);
                at += 7;
                for (int i = 0; i < run.idCount; i++) {
                    Row.number(page, at + i, 1, run.ids[i]);
                }
                at += run.idCount;
            }
            Row.number(page, at, 1, END);
            int n = at + 1 - MASTER_HEAD;
            Row.number(page, MASTER_HEAD + 1, 2, n);
            return n;
        }

        /** Takes over the last whole state; on a chip without one nothing was ever done. Answers the moment. */
        int load() {
            clear();
            int state = -1;
            for (int m = 0; m < MASTERS; m++) {
                int last = lastState(m);
                int number = chip.number(m * BLOCK + 1, 4);
                if (last >= 0 && (state < 0 || number > sequence)) {
                    state = last;
                    master = m;
                    sequence = number;
                }
            }
            int present = state < 0 ? 0 : adopt(state);
            noteUse();
            return present;
        }

        private int lastState(int m) {
            int last = -1;
            int offset = MASTER_HEAD;
            for (int i = 0; i < BLOCK && chip.at(m * BLOCK) == MASTER; i++) {
                int address = m * BLOCK + offset;
                int n = chip.number(address + 1, 2);
                if (offset + STATE_LEAST > BLOCK || chip.at(address) != STATE || n < STATE_LEAST
                        || n > BLOCK - offset || chip.at(address + n - 1) != END) {
                    break;
                }
                last = address;
                offset += n;
            }
            return last;
        }

        private int adopt(int address) {
            fresh = chip.number(address + 7, 1);
            freshFrom = chip.number(address + 8, 2);
            logCount = Math.min(chip.number(address + 10, 1), logs.length);
            int at = address + 11;
            for (int i = 0; i < logCount; i++) {
                logs[i] = chip.at(at + i);
            }
            at += logCount;
            runCount = Math.min(chip.at(at), MOST_RUNS - 1);
            at++;
            for (int r = 0; r < runCount; r++) {
                Run run = runs[r];
                run.clear(chip.at(at));
                run.length = chip.number(at + 1, 3);
                run.entries = chip.number(at + 4, 2);
                run.idCount = Math.min(chip.at(at + 6), RUN_BLOCKS);
                at += 7;
                for (int i = 0; i < run.idCount; i++) {
                    run.ids[i] = chip.at(at + i);
                }
                at += run.idCount;
            }
            return chip.number(address + 3, 4);
        }
    }

    /** The sorted tables: written from memory, merged, and taken in again. */
    static final class Tables {
        final Chip chip;
        final Layout layout;
        final Versions versions;
        final Cursor[] cursors = new Cursor[MOST_RUNS];
        /** The entry before, in a walk over entries in their order. */
        final Row last = new Row(KEY_ROOM);
        int lastMoment = 0;
        /** By slot: whether a table tells of the version. */
        final boolean[] told;
        final byte[] page = new byte[BLOCK + KEY_ROOM + ENTRY_EXTRA];
        int buffered = 0;
        int grownMerges = 0;

        Tables(Chip chip, Layout layout, Versions versions) {
            this.chip = chip;
            this.layout = layout;
            this.versions = versions;
            told = new boolean[versions.order.length];
            for (int i = 0; i < MOST_RUNS; i++) {
                cursors[i] = new Cursor(chip);
            }
        }

        private void emit(byte[] key, int at, int n, int moment, int place, int length) {
            Row.number(page, buffered, 1, n);
            Row.copy(key, at, page, buffered + 1, n);
            int behind = buffered + 1 + n;
            Row.number(page, behind, 4, moment);
            Row.number(page, behind + 4, 3, length < 0 ? 0 : place);
            Row.number(page, behind + 7, 2, length < 0 ? OUT_ON_CHIP : length);
            buffered += n + ENTRY_EXTRA;
        }

        private void pageOut(Run run) {
            int n = Math.min(buffered, BLOCK);
            if (n <= 0) {
                return;
            }
            int block = layout.take();
            chip.erase(block);
            chip.program(block * BLOCK, page, 0, n);
            run.add(block, n);
            buffered -= n;
            Row.copy(page, n, page, 0, buffered);
        }

        /** How many blocks a spill of what is in memory alone takes. */
        int aloneBlocks() {
            int bytes = 0;
            for (int p = 0; p < versions.size; p++) {
                int slot = versions.order[p];
                bytes += versions.alone[slot] ? versions.keyLengths[slot] + ENTRY_EXTRA : 0;
            }
            return (bytes + BLOCK - 1) / BLOCK;
        }

        /**
         * What is known in memory alone goes to a table, or all that is known, in place of all tables; the log need
         * not be replayed up to here any more.
         */
        void spill(boolean all, int present) {
            Run draft = layout.draft(all ? LAST_LEVEL : 0);
            buffered = 0;
            for (int p = 0; p < versions.size; p++) {
                int slot = versions.order[p];
                if (all || versions.alone[slot]) {
                    emit(versions.keys, slot * KEY_ROOM, versions.keyLengths[slot], versions.moments[slot],
                            versions.places[slot], versions.lengths[slot]);
                    draft.entries++;
                }
                if (buffered >= BLOCK) {
                    pageOut(draft);
                }
            }
            pageOut(draft);
            layout.putDraft(0, all ? layout.runCount : 0);
            layout.passLog();
            layout.save(present);
            versions.allInTables();
            versions.purge();
        }

        void mergeStep(int present) {
            for (int level = 0; level <= LAST_LEVEL; level++) {
                int first = layout.firstRun(level);
                int next = layout.firstRun(level + 1);
                if (next - first >= 2) {
                    merge(first, next, Math.min(level + 1, LAST_LEVEL), present);
                    return;
                }
            }
            if (layout.runCount >= 2) {
                merge(0, 2, layout.runs[1].level, present);
            }
        }

        /** Merges the tables from first on, before end, into one. */
        void merge(int first, int end, int level, int present) {
            boolean whole = first == 0 && end == layout.runCount;
            Run draft = layout.draft(level);
            int bytes = 0;
            int entries = 0;
            for (int i = first; i < end; i++) {
                cursors[i].open(layout.runs[i]);
                cursors[i].advance();
                bytes += layout.runs[i].length;
                entries += layout.runs[i].entries;
            }
            buffered = 0;
            last.length = 0;
            for (int i = 0; i < entries; i++) {
                int c = leastCursor(first, end);
                if (c < 0) {
                    break;
                }
                Cursor cursor = cursors[c];
                boolean again = isAgain(cursor);
                if (tells(cursor) && !(again && lastMoment == cursor.moment) || !whole && !again && hides(cursor)) {
                    emit(cursor.key, 0, cursor.keyLength, cursor.moment, cursor.place, cursor.length);
                    draft.entries++;
                }
                remember(cursor);
                cursor.advance();
                if (buffered >= BLOCK) {
                    pageOut(draft);
                }
            }
            pageOut(draft);
            grownMerges += draft.length > bytes ? 1 : 0;
            layout.putDraft(first, end);
            layout.save(present);
        }

        private int leastCursor(int first, int end) {
            int least = -1;
            for (int i = first; i < end; i++) {
                if (!cursors[i].ended && (least < 0 || isBefore(cursors[i], cursors[least]))) {
                    least = i;
                }
            }
            return least;
        }

        private boolean isBefore(Cursor a, Cursor b) {
            int order = Row.compare(a.key, 0, a.keyLength, b.key, 0, b.keyLength);
            return order < 0 || order == 0 && a.moment > b.moment;
        }

        private void remember(Cursor cursor) {
            Row.copy(cursor.key, 0, last.bytes, 0, cursor.keyLength);
            last.length = cursor.keyLength;
            lastMoment = cursor.moment;
        }

        private boolean isAgain(Cursor cursor) {
            return last.length == cursor.keyLength
                    && Row.compare(last.bytes, 0, last.length, cursor.key, 0, cursor.keyLength) == 0;
        }

        /**
         * Whether the entry says of a version where it is. An old entry may say the same as a new one: a record that
         * was moved twice may be where it was.
         */
        private boolean tells(Cursor cursor) {
            int p = versions.from(cursor.key, 0, cursor.keyLength, cursor.moment);
            if (p >= versions.size) {
                return false;
            }
            int slot = versions.order[p];
            return versions.hasKey(slot, cursor.key, 0, cursor.keyLength) && versions.moments[slot] == cursor.moment
                    && versions.lengths[slot] == cursor.length && !versions.alone[slot]
                    && (cursor.length < 0 || versions.places[slot] == cursor.place);
        }

        /** One that was taken out, and not changed since, must still hide what older tables say of its key. */
        private boolean hides(Cursor cursor) {
            int p = versions.from(cursor.key, 0, cursor.keyLength, LATEST);
            boolean known = p < versions.size && versions.hasKey(versions.order[p], cursor.key, 0, cursor.keyLength);
            return cursor.length < 0 && (!known || versions.moments[versions.order[p]] <= cursor.moment);
        }

        /** Newer tables first: of entries with one moment theirs tells where the record was moved to. */
        void loadAll() {
            Cursor cursor = cursors[0];
            for (int r = 0; r < layout.runCount; r++) {
                cursor.open(layout.runs[r]);
                cursor.advance();
                for (int i = 0; i < layout.runs[r].entries && !cursor.ended; i++) {
                    versions.meet(cursor.key, cursor.keyLength, cursor.moment, cursor.place, cursor.length, false);
                    cursor.advance();
                }
            }
        }

        /** Every table is in order, and together they tell of each version that is not in memory alone. */
        boolean isSound() {
            for (int p = 0; p < versions.size; p++) {
                told[versions.order[p]] = false;
            }
            for (int r = 0; r < layout.runCount; r++) {
                if (!isInOrder(layout.runs[r])) {
                    return false;
                }
            }
            for (int p = 0; p < versions.size; p++) {
                int slot = versions.order[p];
                if (!told[slot] && !versions.alone[slot]) {
                    return false;
                }
            }
            return true;
        }

        private boolean isInOrder(Run run) {
            Cursor cursor = cursors[0];
            last.length = 0;
            cursor.open(run);
            cursor.advance();
            for (int i = 0; i < run.entries; i++) {
                int order = Row.compare(last.bytes, 0, last.length, cursor.key, 0, cursor.keyLength);
                if (cursor.ended || order > 0 || order == 0 && lastMoment <= cursor.moment) {
                    return false;
                }
                if (tells(cursor)) {
                    told[versions.order[versions.from(cursor.key, 0, cursor.keyLength, cursor.moment)]] = true;
                }
                remember(cursor);
                cursor.advance();
            }
            return cursor.ended && cursor.offset == run.length;
        }
    }

    /** The log: records are put at its end, and cleared from blocks in which little is needed. */
    static final class Log {
        final Chip chip;
        final Layout layout;
        final Versions versions;
        final Tables tables;
        final byte[] page = new byte[BLOCK];
        final byte[] key = new byte[KEY_ROOM];
        final int[] pending = new int[MOST_CHANGES];
        final int[] loads;
        int misplaced = 0;
        int heavyClearings = 0;

        Log(Chip chip, Layout layout, Versions versions, Tables tables) {
            this.chip = chip;
            this.layout = layout;
            this.versions = versions;
            this.tables = tables;
            loads = new int[layout.blocks];
        }

        // -- storing --

        /** The records of a change and its mark, which makes it done. */
        void store(Batch batch, int present) {
            for (int i = 0; i < batch.size; i++) {
                int bytes = batch.keyLengths[i] + Math.max(batch.lengths[i], 0);
                if (!layout.fits(bytes + RECORD_EXTRA)) {
                    openBlock();
                    layout.save(present);
                }
                int kind = batch.lengths[i] < 0 ? RECORD_OUT : RECORD_VALUE;
                head(kind, batch.keyLengths[i], Math.max(batch.lengths[i], 0), present + 1);
                Row.copy(batch.data, batch.starts[i], page, RECORD_HEAD, bytes);
                batch.places[i] = layout.point();
                append(bytes + RECORD_EXTRA);
            }
            if (!layout.fits(RECORD_EXTRA)) {
                openBlock();
                layout.save(present);
            }
            head(RECORD_DONE, 0, batch.size, present + 1);
            append(RECORD_EXTRA);
        }

        /** A replay meets the block only once a state with it is saved. */
        private void openBlock() {
            int block = layout.take();
            chip.erase(block);
            layout.addLog(block);
        }

        private void head(int kind, int keyLength, int length, int moment) {
            Row.number(page, 0, 1, kind);
            Row.number(page, 1, 1, keyLength);
            Row.number(page, 2, 2, length);
            Row.number(page, 4, 4, moment);
        }

        private void append(int n) {
            Row.number(page, n - 1, 1, END);
            chip.program(layout.point(), page, 0, n);
            layout.top += n;
        }

        // -- looking at records --

        private int sizeAt(int address) {
            int n = chip.at(address) == RECORD_DONE ? 0 : chip.number(address + 2, 2);
            return RECORD_EXTRA + chip.at(address + 1) + n;
        }

        private boolean isWholeAt(int address) {
            int kind = chip.at(address);
            int room = BLOCK - address % BLOCK;
            if (address < 0 || room < RECORD_EXTRA || kind < RECORD_VALUE || kind > RECORD_MOVED
                    || chip.at(address + 1) > KEY_ROOM) {
                return false;
            }
            int n = sizeAt(address);
            return n <= room && chip.at(address + n - 1) == END;
        }

        private boolean isAt(int slot) {
            int address = versions.places[slot];
            int n = versions.keyLengths[slot];
            int length = versions.lengths[slot];
            int kind = chip.at(address);
            return layout.logOf(address) >= 0 && (kind == RECORD_VALUE || kind == RECORD_MOVED)
                    && chip.at(address + 1) == n && chip.number(address + 2, 2) == length
                    && chip.number(address + 4, 4) == versions.moments[slot]
                    && Row.compare(chip.cells, address + RECORD_HEAD, n, versions.keys, slot * KEY_ROOM, n) == 0
                    && chip.at(address + RECORD_HEAD + n + length) == END;
        }

        void watch(int slot) {
            misplaced += isAt(slot) ? 0 : 1;
        }

        void watchAll() {
            for (int p = 0; p < versions.size; p++) {
                if (versions.lengths[versions.order[p]] >= 0) {
                    watch(versions.order[p]);
                }
            }
        }

        /** Every value lies where it is said to, and those in memory alone where a replay would meet them. */
        boolean isSound() {
            for (int p = 0; p < versions.size; p++) {
                int slot = versions.order[p];
                if (versions.lengths[slot] >= 0
                        && (!isAt(slot) || versions.alone[slot] && !layout.isFresh(versions.places[slot]))) {
                    return false;
                }
            }
            return true;
        }

        // -- clearing --

        private void weighLogs() {
            Arrays.fill(loads, 0);
            for (int p = 0; p < versions.size; p++) {
                int slot = versions.order[p];
                int block = versions.places[slot] / BLOCK;
                if (versions.lengths[slot] >= 0 && block >= 0 && block < loads.length) {
                    loads[block] += versions.weightOf(slot);
                }
            }
        }

        private int loadOf(int i) {
            int block = i >= 0 && i < layout.logCount ? layout.logs[i] : -1;
            return block >= 0 && block < loads.length ? loads[block] : 0;
        }

        private int lightestLog() {
            int lightest = 0;
            for (int i = 1; i < layout.logCount; i++) {
                if (loadOf(i) < loadOf(lightest)) {
                    lightest = i;
                }
            }
            return lightest;
        }

        /**
         * Clears the block in which the least is needed. Memory goes to tables before, that no replay needs the
         * block, and behind, with the new places; the state that is saved last lets the block go.
         */
        void clearOne(int present) {
            if (versions.aloneCount > 0) {
                tables.spill(false, present);
            }
            if (layout.logCount == 0) {
                return;
            }
            weighLogs();
            int i = lightestLog();
            if (layout.isWriting(i)) {
                layout.seal();
            }
            moveOut(layout.logs[i], loadOf(i));
            layout.dropLog(i);
            tables.spill(false, present);
        }

        /**
         * Clears all blocks and writes one table. No state is saved before the last one, which lets all old blocks
         * go: where the power fails before that, every block that was taken is free again.
         */
        void renew(int present) {
            layout.seal();
            int old = layout.logCount;
            moveOut(ALL_BLOCKS, versions.needed(NOBODY));
            for (int i = 0; i < old; i++) {
                layout.dropLog(0);
            }
            // What was taken out need not be told any more: nothing is left that it hides.
            versions.allInTables();
            versions.purge();
            tables.spill(true, present);
        }

        /** What is needed of a block, or of all, is written anew at the log's end. */
        private void moveOut(int block, int needed) {
            int moved = 0;
            for (int p = 0; p < versions.size; p++) {
                int slot = versions.order[p];
                if (versions.lengths[slot] >= 0 && (block == ALL_BLOCKS || versions.places[slot] / BLOCK == block)) {
                    int n = versions.keyLengths[slot] + versions.lengths[slot] + RECORD_EXTRA;
                    if (!layout.fits(n)) {
                        openBlock();
                    }
                    watch(slot);
                    chip.copyOut(versions.places[slot], page, 0, n);
                    Row.number(page, 0, 1, RECORD_MOVED);
                    int place = layout.point();
                    append(n);
                    versions.relocate(slot, place);
                    moved += n;
                }
            }
            heavyClearings += moved > needed ? 1 : 0;
        }

        /** Lets the blocks go in which nothing is needed; they are free with the next state. */
        void sweep() {
            weighLogs();
            for (int i = layout.logCount - 1; i >= 0; i--) {
                if (!layout.isWriting(i) && loadOf(i) == 0) {
                    layout.dropLog(i);
                }
            }
        }

        // -- mending --

        /** What the log tells behind the tables; a change without its mark was not done. Answers the moment. */
        int replay(int present) {
            int moment = present;
            int waiting = 0;
            int offset = layout.freshFrom;
            for (int i = Math.max(0, layout.logCount - layout.fresh); i < layout.logCount; i++) {
                int address = layout.logs[i] * BLOCK + offset;
                int end = (layout.logs[i] + 1) * BLOCK;
                offset = 0;
                for (int k = 0; k < BLOCK && address < end && isWholeAt(address); k++) {
                    int kind = chip.at(address);
                    if (kind == RECORD_DONE) {
                        if (chip.number(address + 2, 2) == waiting) {
                            moment = chip.number(address + 4, 4);
                            meetPending(waiting);
                        }
                        waiting = 0;
                    } else if (kind != RECORD_MOVED && waiting < pending.length) {
                        pending[waiting] = address;
                        waiting++;
                    }
                    address += sizeAt(address);
                }
            }
            return moment;
        }

        private void meetPending(int n) {
            for (int i = 0; i < n && i < pending.length; i++) {
                int address = pending[i];
                int keyLength = chip.at(address + 1);
                int length = chip.at(address) == RECORD_OUT ? OUT : chip.number(address + 2, 2);
                chip.copyOut(address + RECORD_HEAD, key, 0, keyLength);
                versions.meet(key, keyLength, chip.number(address + 4, 4), address, length, true);
            }
        }
    }

    /** The files and directories by their numbers, 0 the root. */
    static final class Tree {
        final int[] kinds = new int[MOST_NUMBER + 1];
        final int[] parents = new int[MOST_NUMBER + 1];
        final int[] sizes = new int[MOST_NUMBER + 1];
        final int[] nameLengths = new int[MOST_NUMBER + 1];
        final byte[] names = new byte[(MOST_NUMBER + 1) * MOST_NAME];
        int nodes = 0;

        Tree() {
            kinds[0] = DIRECTORY;
        }

        void clear() {
            Arrays.fill(kinds, 0);
            kinds[0] = DIRECTORY;
            nodes = 0;
        }

        private boolean isNumber(int number) {
            return number >= 0 && number <= MOST_NUMBER;
        }

        /** 0 if there is none. */
        int kindOf(int number) {
            return isNumber(number) ? kinds[number] : 0;
        }

        boolean isFile(int number) {
            return kindOf(number) == FILE;
        }

        boolean isDirectory(int number) {
            return kindOf(number) == DIRECTORY;
        }

        int parentOf(int number) {
            return isNumber(number) ? parents[number] : 0;
        }

        int sizeOf(int number) {
            return isNumber(number) ? sizes[number] : 0;
        }

        int nameLengthOf(int number) {
            return isNumber(number) ? nameLengths[number] : 0;
        }

        void setSize(int number, int size) {
            if (isNumber(number)) {
                sizes[number] = size;
            }
        }

        void set(int number, int kind, int dir, int size, byte[] name, int at, int n) {
            if (number < 1 || number > MOST_NUMBER) {
                return;
            }
            nodes += kinds[number] == 0 ? 1 : 0;
            kinds[number] = kind;
            parents[number] = dir;
            sizes[number] = size;
            nameLengths[number] = Math.min(n, MOST_NAME);
            Row.copy(name, at, names, number * MOST_NAME, nameLengths[number]);
        }

        void unset(int number) {
            if (number >= 1 && number <= MOST_NUMBER && kinds[number] != 0) {
                kinds[number] = 0;
                nodes--;
            }
        }

        int leastUnused() {
            for (int number = 1; number <= MOST_NUMBER; number++) {
                if (kinds[number] == 0) {
                    return number;
                }
            }
            return -1;
        }

        private boolean isIn(int number, int dir) {
            return number > 0 && kinds[number] != 0 && parents[number] == dir;
        }

        int childCount(int dir) {
            int n = 0;
            for (int number = 1; number <= MOST_NUMBER; number++) {
                n += isIn(number, dir) ? 1 : 0;
            }
            return n;
        }

        int childNamed(int dir, byte[] name, int at, int n) {
            for (int number = 1; number <= MOST_NUMBER; number++) {
                if (isIn(number, dir) && nameLengths[number] == n
                        && Row.compare(names, number * MOST_NAME, n, name, at, n) == 0) {
                    return number;
                }
            }
            return -1;
        }

        int childRanked(int dir, int rank) {
            for (int number = 1; number <= MOST_NUMBER && rank >= 0; number++) {
                if (isIn(number, dir) && rankOf(number, dir) == rank) {
                    return number;
                }
            }
            return -1;
        }

        private int rankOf(int number, int dir) {
            int rank = 0;
            for (int other = 1; other <= MOST_NUMBER; other++) {
                if (isIn(other, dir) && Row.compare(names, other * MOST_NAME, nameLengths[other], names,
                        number * MOST_NAME, nameLengths[number]) < 0) {
                    rank++;
                }
            }
            return rank;
        }

        boolean isWithin(int inner, int outer) {
            int number = inner;
            for (int i = 0; i <= MOST_NUMBER && number > 0 && number != outer; i++) {
                number = parentOf(number);
            }
            return number == outer;
        }

        void load(Versions versions, Chip chip) {
            clear();
            byte[] name = chip.cells;
            for (int p = 0; p < versions.size; p++) {
                int slot = versions.order[p];
                int at = slot * KEY_ROOM;
                if (versions.keys[at] == NODE && versions.lengths[slot] >= NODE_HEAD) {
                    int value = versions.valueAddress(slot);
                    set(versions.keys[at + 1] & 255, chip.at(value), chip.at(value + 1), chip.number(value + 2, 2),
                            name, value + NODE_HEAD, versions.lengths[slot] - NODE_HEAD);
                }
            }
        }

        /** Each has a record, and comes down from the root. */
        boolean isSound(Versions versions) {
            int records = 0;
            for (int p = 0; p < versions.size; p++) {
                int slot = versions.order[p];
                if (versions.keys[slot * KEY_ROOM] == NODE && versions.lengths[slot] >= 0) {
                    records++;
                }
            }
            for (int number = 1; number <= MOST_NUMBER; number++) {
                if (kinds[number] != 0 && (!isDirectory(parents[number]) || !isWithin(number, 0))) {
                    return false;
                }
            }
            return records == nodes;
        }
    }
}
