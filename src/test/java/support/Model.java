import java.nio.charset.StandardCharsets;
import java.util.ArrayList;
import java.util.Arrays;
import java.util.HashSet;
import java.util.List;
import java.util.Map;
import java.util.NoSuchElementException;
import java.util.Set;
import java.util.TreeMap;

/**
 * What the document says, told as plainly as the Java library allows: no chip, every version of every key is kept
 * for good. Keys, values and names are texts of the characters 0 to 255, whose order is the document's.
 */
public final class Model {
    /** A version of a key; value null: it was taken out. */
    private record Version(int moment, String value) { }

    private static final class Transaction {
        boolean open;
        int sees;
        TreeMap<String, String> writes = new TreeMap<>();
    }

    private static final class Node {
        boolean directory;
        int parent;
        String name;
        int size;
        /** The bytes that are kept of each piece. */
        TreeMap<Integer, byte[]> pieces = new TreeMap<>();

        Node copy() {
            Node n = new Node();
            n.directory = directory;
            n.parent = parent;
            n.name = name;
            n.size = size;
            n.pieces = new TreeMap<>(pieces);
            return n;
        }
    }

    private final int blocks;
    private String tape = "";
    private String result = "";
    private int present = 0;
    private boolean up = true;
    private boolean cutWaits = false;
    private boolean cutLate = false;
    private final TreeMap<String, List<Version>> keys = new TreeMap<>();
    private final Transaction[] transactions = new Transaction[8];
    private TreeMap<Integer, Node> nodes = new TreeMap<>();

    public Model(int size) {
        blocks = size == 0 ? 64 : size == 1 ? 96 : 128;
        for (int t = 0; t < 8; t++) {
            transactions[t] = new Transaction();
        }
    }

    // ---- helpers ----

    private static void argument(boolean fine) {
        if (!fine) {
            throw new IllegalArgumentException();
        }
    }

    private void up() {
        if (!up) {
            throw new IllegalStateException();
        }
    }

    private String takeTape() {
        String s = tape;
        tape = "";
        return s;
    }

    private static byte[] bytes(String s) {
        return s.getBytes(StandardCharsets.ISO_8859_1);
    }

    private static String text(byte[] b) {
        return new String(b, StandardCharsets.ISO_8859_1);
    }

    private Transaction open(int t) {
        if (!transactions[t].open) {
            throw new NoSuchElementException();
        }
        return transactions[t];
    }

    // ---- what tests ask beside the face ----

    boolean isOpen(int t) {
        return transactions[t].open;
    }

    /** Null if there is none of this number, or for the root. */
    String nameOf(int number) {
        return nodes.containsKey(number) ? nodes.get(number).name : null;
    }

    int parentOf(int number) {
        return nodes.containsKey(number) ? nodes.get(number).parent : 0;
    }

    // ---- helpers again ----

    private static Version versionAt(List<Version> versions, int moment) {
        Version seen = null;
        for (Version v : versions) {
            if (v.moment <= moment) {
                seen = v;
            }
        }
        return seen;
    }

    private String valueTo(Transaction t, String key) {
        if (t.writes.containsKey(key)) {
            return t.writes.get(key);
        }
        Version v = versionAt(keys.getOrDefault(key, List.of()), t.sees);
        return v == null ? null : v.value;
    }

    private int limit() {
        return blocks * 256;
    }

    private int needed() {
        int sum = 0;
        for (Map.Entry<String, List<Version>> e : keys.entrySet()) {
            Set<Version> counted = new HashSet<>();
            counted.add(versionAt(e.getValue(), present));
            for (Transaction t : transactions) {
                if (t.open) {
                    counted.add(versionAt(e.getValue(), t.sees));
                }
            }
            counted.remove(null);
            for (Version v : counted) {
                boolean seenBefore = false;
                for (Transaction t : transactions) {
                    seenBefore |= t.open && t.sees < v.moment;
                }
                if (v.value != null) {
                    sum += 24 + e.getKey().length() + v.value.length();
                } else if (seenBefore) {
                    sum += 24 + e.getKey().length();
                }
            }
        }
        for (Node n : nodes.values()) {
            sum += 62 + n.name.length();
            for (byte[] kept : n.pieces.values()) {
                sum += 27 + kept.length;
            }
        }
        return sum;
    }

    private void goDown() {
        up = false;
        tape = "";
        result = "";
        for (Transaction t : transactions) {
            t.open = false;
        }
    }

    /** Answers whether the call is done; where it answers false or the cut is late the power fails. */
    private boolean meetsCutBefore() {
        return cutWaits && !cutLate;
    }

    private void fail() {
        cutWaits = false;
        goDown();
        throw new IllegalStateException();
    }

    // ---- the face ----

    public int feed(int a, int b, int c, int d, int e) {
        up();
        if (tape.length() + 20 > 2000) {
            throw new IndexOutOfBoundsException();
        }
        byte[] more = java.nio.ByteBuffer.allocate(20).putInt(a).putInt(b).putInt(c).putInt(d).putInt(e).array();
        tape += text(more);
        return tape.length();
    }

    public int fill(int v, int n) {
        argument(v >= 0 && v <= 255 && n >= 1 && n <= 1000);
        up();
        if (tape.length() + n > 2000) {
            throw new IndexOutOfBoundsException();
        }
        tape += String.valueOf((char) v).repeat(n);
        return tape.length();
    }

    public int end(int n) {
        argument(n >= 0 && n <= tape.length());
        up();
        tape = tape.substring(0, n);
        return n;
    }

    public int begin() {
        up();
        for (int t = 0; t < 8; t++) {
            if (!transactions[t].open) {
                transactions[t].open = true;
                transactions[t].sees = present;
                transactions[t].writes.clear();
                return t;
            }
        }
        throw new IndexOutOfBoundsException();
    }

    private int intend(int t, String key, String value) {
        TreeMap<String, String> after = new TreeMap<>(open(t).writes);
        after.put(key, value);
        int sum = 0;
        for (Map.Entry<String, String> e : after.entrySet()) {
            sum += e.getKey().length() + (e.getValue() == null ? 0 : e.getValue().length());
        }
        if (after.size() > 32 || sum > 4000) {
            throw new UnsupportedOperationException();
        }
        transactions[t].writes = after;
        return after.size();
    }

    public int put(int t, int k) {
        argument(t >= 0 && t <= 7 && k >= 1 && k <= 40 && k <= tape.length() && tape.length() - k <= 1000);
        up();
        String s = takeTape();
        return intend(t, s.substring(0, k), s.substring(k));
    }

    public int delete(int t) {
        argument(t >= 0 && t <= 7 && tape.length() >= 1 && tape.length() <= 40);
        up();
        return intend(t, takeTape(), null);
    }

    public int get(int t) {
        argument(t >= 0 && t <= 7 && tape.length() >= 1 && tape.length() <= 40);
        up();
        String key = takeTape();
        String value = valueTo(open(t), key);
        result = value == null ? "" : value;
        return value == null ? -1 : value.length();
    }

    public int seek(int t, boolean beyond) {
        argument(t >= 0 && t <= 7 && tape.length() <= 40);
        up();
        String from = takeTape();
        Transaction tx = open(t);
        Set<String> all = new java.util.TreeSet<>(keys.keySet());
        all.addAll(tx.writes.keySet());
        for (String key : all) {
            int order = key.compareTo(from);
            if ((order > 0 || order == 0 && !beyond) && valueTo(tx, key) != null) {
                result = key;
                return key.length();
            }
        }
        result = "";
        return -1;
    }

    public int commit(int t) {
        argument(t >= 0 && t <= 7);
        up();
        Transaction tx = open(t);
        if (tx.writes.isEmpty()) {
            tx.open = false;
            return present;
        }
        for (String key : tx.writes.keySet()) {
            for (Version v : keys.getOrDefault(key, List.of())) {
                if (v.moment > tx.sees) {
                    tx.open = false;
                    throw new UnsupportedOperationException();
                }
            }
        }
        apply(tx, 1);
        boolean above = needed() > limit();
        if (above || meetsCutBefore()) {
            apply(tx, -1);
            if (above) {
                throw new IndexOutOfBoundsException();
            }
            fail();
        }
        if (cutWaits) {
            fail();
        }
        return present;
    }

    private void apply(Transaction tx, int way) {
        present += way;
        tx.open = way < 0;
        for (Map.Entry<String, String> e : tx.writes.entrySet()) {
            List<Version> versions = keys.computeIfAbsent(e.getKey(), k -> new ArrayList<>());
            if (way > 0) {
                versions.add(new Version(present, e.getValue()));
            } else {
                versions.remove(versions.size() - 1);
            }
        }
    }

    public int abort(int t) {
        argument(t >= 0 && t <= 7);
        up();
        open(t).open = false;
        return transactions[t].writes.size();
    }

    private int care() {
        up();
        if (cutWaits) {
            fail();
        }
        return needed();
    }

    public int flush() {
        return care();
    }

    public int compact(boolean whole) {
        return care();
    }

    public int collect() {
        return care();
    }

    public int cut(boolean late, int n, int b) {
        argument(n >= 0 && b >= 0);
        int waited = cutWaits ? 1 : 0;
        cutWaits = true;
        cutLate = late;
        return waited;
    }

    public int mount() {
        goDown();
        if (cutWaits) {
            fail();
        }
        up = true;
        return present;
    }

    public long word(int i) {
        up();
        if (i < 0 || i >= result.length()) {
            throw new IndexOutOfBoundsException();
        }
        long sum = 0;
        for (int k = i; k < i + 8; k++) {
            sum = sum * 256 + (k < result.length() ? result.charAt(k) : 0);
        }
        return sum;
    }

    private int valued() {
        int n = 0;
        for (List<Version> versions : keys.values()) {
            Version v = versionAt(versions, present);
            n += v != null && v.value != null ? 1 : 0;
        }
        return n;
    }

    public int count(int what) {
        argument(what >= 0 && what <= 9);
        if (what == 0 || what == 3 || what == 5 || what == 6) {
            up();
        }
        int open = 0;
        for (Transaction t : transactions) {
            open += t.open ? 1 : 0;
        }
        return switch (what) {
            case 0 -> present;
            case 1 -> up ? 1 : 0;
            case 2 -> open;
            case 3 -> needed();
            case 4 -> limit();
            case 5 -> valued();
            case 6 -> nodes.size();
            case 7 -> tape.length();
            case 8 -> result.length();
            default -> cutWaits ? 1 : 0;
        };
    }

    public int faults(int what) {
        argument(what >= 0 && what <= 5);
        return 0;
    }

    public int check() {
        up();
        return valued() + nodes.size();
    }

    // ---- files ----

    private static boolean isName(String s) {
        return s.length() >= 1 && s.length() <= 30 && s.indexOf('/') < 0;
    }

    private static boolean isNumber(int n) {
        return n >= 0 && n <= 200;
    }

    private void directory(int dir) {
        if (dir != 0 && (!nodes.containsKey(dir) || !nodes.get(dir).directory)) {
            throw new NoSuchElementException();
        }
    }

    private Node file(int file) {
        Node n = nodes.get(file);
        if (n == null || n.directory) {
            throw new NoSuchElementException();
        }
        return n;
    }

    private TreeMap<String, Integer> names(int dir) {
        TreeMap<String, Integer> names = new TreeMap<>();
        for (Map.Entry<Integer, Node> e : nodes.entrySet()) {
            if (e.getValue().parent == dir) {
                names.put(e.getValue().name, e.getKey());
            }
        }
        return names;
    }

    private int child(int dir, String name) {
        Integer n = names(dir).get(name);
        if (n == null) {
            throw new NoSuchElementException();
        }
        return n;
    }

    private TreeMap<Integer, Node> copyOfNodes() {
        TreeMap<Integer, Node> copy = new TreeMap<>();
        nodes.forEach((number, node) -> copy.put(number, node.copy()));
        return copy;
    }

    /** The nodes were changed; old is what they were. */
    private void settle(TreeMap<Integer, Node> old, boolean mayBeFull) {
        boolean above = mayBeFull && needed() > limit();
        if (above || meetsCutBefore()) {
            nodes = old;
            if (above) {
                throw new IndexOutOfBoundsException();
            }
            fail();
        }
        present++;
        if (cutWaits) {
            fail();
        }
    }

    public int make(int dir, boolean directory) {
        argument(isNumber(dir) && isName(tape));
        up();
        String name = takeTape();
        directory(dir);
        if (names(dir).containsKey(name)) {
            throw new UnsupportedOperationException();
        }
        int number = 1;
        while (nodes.containsKey(number)) {
            number++;
        }
        if (number > 200) {
            throw new IndexOutOfBoundsException();
        }
        TreeMap<Integer, Node> old = copyOfNodes();
        Node n = new Node();
        n.directory = directory;
        n.parent = dir;
        n.name = name;
        nodes.put(number, n);
        settle(old, true);
        return number;
    }

    public int remove(int dir) {
        argument(isNumber(dir) && isName(tape));
        up();
        String name = takeTape();
        directory(dir);
        int number = child(dir, name);
        if (!names(number).isEmpty()) {
            throw new UnsupportedOperationException();
        }
        TreeMap<Integer, Node> old = copyOfNodes();
        nodes.remove(number);
        settle(old, false);
        return number;
    }

    public int rename(int from, int to, int k) {
        argument(isNumber(from) && isNumber(to) && k >= 1 && k <= tape.length());
        argument(isName(tape.substring(0, k)) && isName(tape.substring(k)));
        up();
        String s = takeTape();
        directory(from);
        directory(to);
        int number = child(from, s.substring(0, k));
        Node node = nodes.get(number);
        for (int above = to; node.directory && above != 0; above = nodes.get(above).parent) {
            if (above == number) {
                throw new UnsupportedOperationException();
            }
        }
        Integer other = names(to).get(s.substring(k));
        if (other != null && other == number) {
            return number;
        }
        if (other != null && (node.directory || nodes.get(other).directory)) {
            throw new UnsupportedOperationException();
        }
        TreeMap<Integer, Node> old = copyOfNodes();
        node = nodes.get(number);
        if (other != null) {
            nodes.remove(other);
        }
        node.parent = to;
        node.name = s.substring(k);
        settle(old, true);
        return number;
    }

    public int find() {
        up();
        String path = takeTape();
        if (path.isEmpty()) {
            return 0;
        }
        int number = 0;
        for (String name : path.split("/", -1)) {
            directory(number);
            number = child(number, name);
        }
        return number;
    }

    public int write(int file, int at) {
        argument(isNumber(file) && tape.length() >= 1 && at >= 0 && (long) at + tape.length() <= 16384);
        up();
        byte[] more = bytes(takeTape());
        file(file);
        TreeMap<Integer, Node> old = copyOfNodes();
        Node n = nodes.get(file);
        for (int i = 0; i < more.length; i++) {
            int piece = (at + i) / 512;
            int offset = (at + i) % 512;
            byte[] kept = n.pieces.getOrDefault(piece, new byte[0]);
            kept = Arrays.copyOf(kept, Math.max(kept.length, offset + 1));
            kept[offset] = more[i];
            n.pieces.put(piece, kept);
        }
        n.size = Math.max(n.size, at + more.length);
        settle(old, true);
        return n.size;
    }

    public int read(int file, int at, int n) {
        argument(isNumber(file) && at >= 0 && at <= 16384 && n >= 0 && n <= 1000);
        up();
        Node node = file(file);
        StringBuilder s = new StringBuilder();
        for (int i = at; i < at + n && i < node.size; i++) {
            byte[] kept = node.pieces.getOrDefault(i / 512, new byte[0]);
            s.append(i % 512 < kept.length ? (char) (kept[i % 512] & 255) : (char) 0);
        }
        result = s.toString();
        return s.length();
    }

    public int resize(int file, int n) {
        argument(isNumber(file) && n >= 0 && n <= 16384);
        up();
        int was = file(file).size;
        if (was == n) {
            return was;
        }
        TreeMap<Integer, Node> old = copyOfNodes();
        Node node = nodes.get(file);
        node.size = n;
        for (int piece = 0; piece < 32; piece++) {
            byte[] kept = node.pieces.get(piece);
            if (kept != null && piece * 512 >= n) {
                node.pieces.remove(piece);
            } else if (kept != null && piece * 512 + kept.length > n) {
                node.pieces.put(piece, Arrays.copyOf(kept, n - piece * 512));
            }
        }
        settle(old, false);
        return was;
    }

    public int list(int dir, int i) {
        argument(isNumber(dir));
        up();
        directory(dir);
        TreeMap<String, Integer> names = names(dir);
        if (i < 0 || i >= names.size()) {
            throw new NoSuchElementException();
        }
        result = new ArrayList<>(names.keySet()).get(i);
        return names.get(result);
    }

    public int about(int number, int what) {
        argument(isNumber(number) && what >= 0 && what <= 3);
        up();
        Node n = nodes.get(number);
        if (number != 0 && n == null) {
            throw new NoSuchElementException();
        }
        boolean directory = number == 0 || n.directory;
        return switch (what) {
            case 0 -> directory ? 2 : 1;
            case 1 -> directory ? names(number).size() : n.size;
            case 2 -> number == 0 ? 0 : n.parent;
            default -> directory ? 0 : n.pieces.size();
        };
    }
}
