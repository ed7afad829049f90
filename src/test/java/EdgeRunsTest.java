import java.nio.charset.StandardCharsets;
import java.util.Arrays;
import java.util.Random;

/**
 * Random runs at the edges: every number is the least or the most that is taken, one beside that, or far from it;
 * what a change needs is what is left of the limit, one more or one less. Each call is compared with the model.
 */
public final class EdgeRunsTest {
    private static final int[] BYTES = {0, 1, 46, 48, 127, 128, 254, 255};
    private static final int[] TAPES = {0, 1, 2, 29, 30, 31, 32, 39, 40, 41, 60, 61, 999, 1000, 1001, 1002, 1039, 1040, 1041, 1979, 1980, 1981, 1999, 2000};
    private static final int[] KEYS = {1, 1, 1, 2, 2, 39, 40};
    private static final int[] VALUES = {0, 0, 1, 2, 300, 999, 1000};
    private static final int[] NAMES = {1, 1, 1, 2, 29, 30};
    private static final int[] PLACES = {0, 1, 2, 510, 511, 512, 513, 1023, 1024, 1025, 1536, 14383, 14384, 14385, 15359, 15360, 15361, 15871, 15872, 15873, 16382, 16383, 16384};

    private final Random random;
    private final Pair pair;
    private final int calls;
    private final int wrongs;
    private final int cuts;
    /** How many writes come before a commit. */
    private final int patience;

    private EdgeRunsTest(long seed, int calls) {
        random = new Random(seed);
        this.calls = calls;
        pair = new Pair("edges, seed " + seed, random.nextInt(3));
        wrongs = pick(new int[] {0, 5, 30});
        cuts = pick(new int[] {0, 2, 10});
        patience = pick(new int[] {1, 3, 12, 60});
    }

    private int pick(int[] of) {
        return of[random.nextInt(of.length)];
    }

    private boolean one(int in) {
        return random.nextInt(in) == 0;
    }

    /** Of a range: mostly its ends. */
    private int at(int least, int most) {
        if (random.nextInt(100) < wrongs) {
            return pick(new int[] {least - 1, most + 1, Integer.MIN_VALUE, Integer.MAX_VALUE});
        }
        return one(3) ? least + random.nextInt(Math.min(most - least + 1, 4)) : one(2) ? least : most;
    }

    private byte[] row(int n, boolean name) {
        byte[] b = new byte[n];
        Arrays.fill(b, (byte) pick(BYTES));
        if (n > 0) {
            b[n - 1] = (byte) pick(BYTES);
        }
        if (name && n > 0 && random.nextInt(100) < wrongs) {
            b[random.nextInt(n)] = 47;
        }
        return b;
    }

    private int length(int[] of, int most) {
        return random.nextInt(100) < wrongs ? pick(new int[] {0, most + 1}) : pick(of);
    }

    private static byte[] join(byte[] a, byte[] b) {
        byte[] c = Arrays.copyOf(a, a.length + b.length);
        System.arraycopy(b, 0, c, a.length, b.length);
        return c;
    }

    private void tape(byte[] b) {
        if (pair.model.count(7) > 0) {
            pair.call("end", 0);
        }
        pair.tape(b);
    }

    /** Mostly one that is open. */
    private int transaction() {
        int t = random.nextInt(100) < wrongs ? at(0, 7) : random.nextInt(8);
        for (int i = 0; i < 8 && t >= 0 && t < 8 && !one(15); i++) {
            if (pair.model.isOpen((t + i) % 8)) {
                return (t + i) % 8;
            }
        }
        return t;
    }

    private void keys() {
        int t = transaction();
        if (pair.model.count(2) < 2 || one(patience * 3)) {
            pair.call("begin");
        }
        switch (random.nextInt(7 + 4 * patience)) {
            case 0 -> pair.call("begin");
            case 1, 2 -> pair.call("commit", t);
            case 3 -> pair.call(one(4) ? "abort" : "commit", t);
            case 4, 5 -> {
                tape(row(length(KEYS, 40), false));
                pair.call("get", t);
                pair.call("word", at(0, Math.max(0, pair.model.count(8) - 1)));
            }
            case 6 -> {
                tape(row(one(3) ? 0 : length(KEYS, 40), false));
                pair.call("seek", t, random.nextBoolean());
                pair.call("word", at(0, Math.max(0, pair.model.count(8) - 1)));
            }
            default -> intend(t);
        }
    }

    private void intend(int t) {
        byte[] key = row(length(KEYS, 40), false);
        if (one(4)) {
            tape(key);
            pair.call("delete", t);
        } else {
            tape(join(key, row(length(VALUES, 1000), false)));
            pair.call("put", t, random.nextInt(100) < wrongs ? at(1, 40) : key.length);
        }
    }

    private int number() {
        return random.nextInt(100) < wrongs ? at(0, 200) : random.nextInt(2 + (pair.model.count(1) == 0 ? 3 : Math.min(pair.model.count(6), 5)));
    }

    private byte[] name() {
        return row(length(NAMES, 30), true);
    }

    /** The number of one that is there, or of none. */
    private int node() {
        int number = 1 + random.nextInt(6);
        return pair.model.nameOf(number) == null ? 1 : number;
    }

    private byte[] nameOf(int number) {
        String s = pair.model.nameOf(number);
        return s == null || one(6) ? name() : s.getBytes(StandardCharsets.ISO_8859_1);
    }

    private int directoryOf(int number) {
        return one(6) ? number() : pair.model.parentOf(number);
    }

    /** From the root on. */
    private byte[] path(int number) {
        byte[] path = nameOf(number);
        int above = pair.model.parentOf(number);
        for (int i = 0; i < 10 && above != 0; i++) {
            path = join(join(nameOf(above), new byte[] {47}), path);
            above = pair.model.parentOf(above);
        }
        return path;
    }

    private void files() {
        switch (random.nextInt(11)) {
            case 0, 1 -> {
                boolean again = one(5);
                int like = node();
                tape(again ? nameOf(like) : name());
                pair.call("make", again ? directoryOf(like) : number(), one(2));
            }
            case 2 -> {
                int number = node();
                tape(nameOf(number));
                pair.call("remove", directoryOf(number));
            }
            case 3 -> {
                int number = node();
                int other = node();
                byte[] name = nameOf(number);
                boolean onto = one(3);
                tape(join(name, onto ? nameOf(other) : one(8) ? name : name()));
                pair.call("rename", directoryOf(number), onto ? directoryOf(other) : number(), random.nextInt(100) < wrongs ? at(1, 30) : name.length);
            }
            case 4 -> {
                tape(one(9) ? new byte[0] : one(9) ? join(path(node()), new byte[] {47}) : path(node()));
                pair.call("find");
            }
            case 5, 6 -> {
                tape(row(Math.max(random.nextInt(100) < wrongs ? 0 : 1, pick(TAPES)), false));
                int n = pair.model.count(7);
                pair.call("write", number(), one(4) ? at(0, 16384 - n) : pick(PLACES));
            }
            case 7 -> pair.call("resize", number(), one(4) ? at(0, 16384) : pick(PLACES));
            case 8 -> {
                pair.call("read", number(), one(4) ? at(0, 16384) : pick(PLACES), at(0, 1000));
                pair.call("word", at(0, Math.max(0, pair.model.count(8) - 1)));
            }
            case 9 -> pair.call("list", number(), at(0, 2));
            default -> pair.call("about", number(), at(0, 3));
        }
    }

    /** A change that needs what is left, or nearly. */
    private void fitting() {
        if (pair.model.count(1) == 0) {
            return;
        }
        int room = pair.model.count(4) - pair.model.count(3) + random.nextInt(3) - 1;
        switch (random.nextInt(5)) {
            case 0 -> {
                int t = pair.number("begin");
                if (t >= 0 && room >= 25) {
                    int k = room >= 64 && one(2) ? 40 : 1;
                    byte[] key = row(k, false);
                    tape(join(key, row(Math.min(1000, room - 24 - k), false)));
                    pair.call("put", t, k);
                    pair.call("commit", t);
                }
            }
            case 1 -> {
                tape(row(Math.max(1, Math.min(30, room - 62)), false));
                pair.call("make", 0, one(2));
            }
            case 2 -> {
                int number = 1 + random.nextInt(3);
                if (!pair.call("list", 0, number - 1).startsWith("throws.")) {
                    byte[] name = new byte[pair.model.count(8)];
                    for (int i = 0; i < name.length; i++) {
                        name[i] = (byte) (pair.model.word(i) >> 56);
                    }
                    tape(join(name, row(Math.max(1, Math.min(30, name.length + room)), false)));
                    pair.call("rename", 0, 0, name.length);
                }
            }
            case 3 -> {
                int n = Math.max(1, Math.min(2000, one(2) ? room : room - 27));
                tape(row(n, false));
                int file = 1 + random.nextInt(3);
                String size = Call.of("about", file, 1).on(pair.model);
                int end = size.startsWith("throws.") ? 0 : Integer.parseInt(size);
                pair.call("write", file, Math.min(16384 - n, one(2) ? end : (end + 511) / 512 * 512));
            }
            default -> {
                // what is taken out needs 24 and the key, while another sees what was
                int t = pair.number("begin");
                int other = pair.number("begin");
                if (t >= 0 && room >= 25 && room <= 64) {
                    tape(row(room - 24, false));
                    pair.call("delete", t);
                    pair.call("commit", t);
                }
                if (other >= 0 && one(2)) {
                    pair.call("abort", other);
                }
            }
        }
    }

    /** So much in one file that little is left. */
    private void fillUp() {
        pair.tape("f");
        pair.call("make", 0, false);
        pair.tape("g");
        pair.call("make", 0, false);
        int left = pick(new int[] {0, 24, 25, 26, 62, 63, 64, 65, 92, 200, 1064});
        for (int i = 0; i < 30; i++) {
            int room = pair.model.count(4) - pair.model.count(3) - left;
            int file = i < 8 ? 1 : 2;
            int end = pair.model.about(file, 1);
            int n = Math.min(2000, Math.min(room - 5 * 27, 16384 - end));
            if (n <= 0) {
                continue;
            }
            pair.call("fill", 1 + random.nextInt(255), Math.min(1000, n));
            if (n > 1000) {
                pair.call("fill", 1 + random.nextInt(255), n - 1000);
            }
            pair.call("write", file, end);
        }
    }

    private void tapes() {
        switch (random.nextInt(3)) {
            case 0 -> pair.call("fill", at(0, 255), at(1, 1000));
            case 1 -> pair.call("feed", random.nextInt(), random.nextInt(), random.nextInt(), random.nextInt(), random.nextInt());
            default -> pair.call("end", at(0, pair.model.count(7)));
        }
    }

    private void care() {
        switch (random.nextInt(5)) {
            case 0 -> pair.call("flush");
            case 1 -> pair.call("compact", one(2));
            case 2 -> pair.call("collect");
            case 3 -> pair.call("check");
            default -> pair.call("mount");
        }
    }

    private boolean run() {
        if (one(2)) {
            fillUp();
        }
        while (pair.calls < calls && !pair.wrong) {
            if (pair.model.count(1) == 0 && one(2)) {
                pair.call("mount");
            }
            int what = random.nextInt(100);
            if (what < cuts) {
                pair.call("cut", one(3), at(0, 5), at(0, 40));
            } else if (what < 40) {
                keys();
            } else if (what < 75) {
                files();
            } else if (what < 85) {
                fitting();
            } else if (what < 92) {
                tapes();
            } else if (what < 96) {
                pair.call("count", at(0, 9));
                pair.call("faults", at(0, 5));
            } else {
                care();
            }
        }
        pair.compareAll();
        pair.call("mount");
        pair.call("mount");
        pair.compareAll();
        pair.compareContents();
        return !pair.wrong;
    }

    public static void main(String[] args) {
        int runs = args.length == 2 ? Integer.parseInt(args[0]) : 2000;
        long first = args.length == 2 ? Long.parseLong(args[1]) : 1;
        int wrong = 0;
        for (long seed = first; seed < first + runs && wrong < 5; seed++) {
            wrong += new EdgeRunsTest(seed, 500).run() ? 0 : 1;
        }
        System.out.println(runs + " random runs at the edges: " + wrong + " went wrong");
        if (wrong > 0) {
            System.exit(1);
        }
    }
}
