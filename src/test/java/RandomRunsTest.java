import java.util.Random;

/** Random runs of calls on the class and on the model, of many kinds, each compared call by call. */
public final class RandomRunsTest {
    private final Random random;
    private final Pair pair;
    private final int calls;
    /** How likely each group of calls is, how long values are, how many keys there are, ... */
    private final int keyWeight;
    private final int fileWeight;
    private final int careWeight;
    private final int cutWeight;
    private final int wrongWeight;
    private final int longest;
    private final int keys;
    private final int names;
    private final int patience;
    /** Whether calls write as much as they can, so that the chip is filled again and again. */
    private final boolean dense;

    private RandomRunsTest(long seed, int calls) {
        random = new Random(seed);
        this.calls = calls;
        pair = new Pair("seed " + seed, random.nextInt(3));
        keyWeight = pick(0, 10, 30, 60);
        fileWeight = keyWeight == 0 ? 30 : pick(0, 5, 20, 40);
        careWeight = pick(0, 1, 5, 15);
        cutWeight = pick(0, 0, 1, 5, 15);
        wrongWeight = pick(0, 1, 3);
        longest = pick(5, 60, 300, 1000);
        keys = pick(3, 8, 40, 300);
        names = pick(2, 5, 30, 300);
        patience = pick(1, 3, 20, 60);
        dense = random.nextInt(3) == 0;
    }

    private int pick(int... of) {
        return of[random.nextInt(of.length)];
    }

    private byte[] bytes(int n) {
        byte[] b = new byte[n];
        if (random.nextInt(4) == 0) {
            random.nextBytes(b);
        } else {
            java.util.Arrays.fill(b, (byte) pick(0, 255, 90, 1, random.nextInt(256)));
        }
        return b;
    }

    /** A few kinds of keys: short ones, long ones, ones that are the beginning of others. */
    private byte[] key() {
        int i = random.nextInt(keys);
        int n = 1 + i * 7 % (keys > 20 ? 40 : 5);
        byte[] b = new byte[n];
        for (int k = 0; k < n; k++) {
            b[k] = (byte) (k == n - 1 ? i : i % 3 == 0 ? 255 : i % 3 == 1 ? 0 : 97);
        }
        return b;
    }

    private byte[] name() {
        int i = random.nextInt(names);
        byte[] b = new byte[1 + i * 5 % (names > 10 ? 30 : 4)];
        java.util.Arrays.fill(b, (byte) (i % 2 == 0 ? 255 : 97));
        b[b.length - 1] = (byte) (i == 47 ? 200 : i);
        return b;
    }

    private static byte[] join(byte[] a, byte[] b) {
        byte[] c = java.util.Arrays.copyOf(a, a.length + b.length);
        System.arraycopy(b, 0, c, a.length, b.length);
        return c;
    }

    private void emptyTape() {
        if (pair.model.count(7) > 0) {
            pair.call("end", 0);
        }
    }

    private int transaction() {
        for (int i = 0; i < 20; i++) {
            int t = random.nextInt(8);
            if (open[t]) {
                return t;
            }
        }
        return random.nextInt(8);
    }

    private final boolean[] open = new boolean[8];

    private void keyCall() {
        emptyTape();
        int t = transaction();
        int what = random.nextInt(20);
        if (what < 3 && random.nextInt(patience) == 0 || pair.model.count(2) == 0) {
            int begun = pair.number("begin");
            if (begun >= 0) {
                open[begun] = true;
            }
        } else if (what < 11) {
            byte[] key = key();
            pair.tape(join(key, bytes(random.nextInt(longest + 1))));
            pair.call("put", t, key.length);
        } else if (what < 13) {
            pair.tape(key());
            pair.call("delete", t);
        } else if (what < 14) {
            pair.tape(key());
            pair.call("get", t);
            pair.call("word", 0);
        } else if (what < 15) {
            pair.tape(random.nextInt(5) == 0 ? new byte[0] : key());
            pair.call("seek", t, random.nextBoolean());
            pair.call("word", 0);
        } else if (what < 19 || random.nextInt(patience) > 0) {
            pair.call("commit", t);
        } else {
            pair.call("abort", t);
        }
    }

    /** As many bytes as a commit or a write of a file may have, with as few calls as can be. */
    private void denseCall() {
        emptyTape();
        if (keyWeight > 0 && (fileWeight == 0 || random.nextBoolean())) {
            int t = pair.number("begin");
            if (t < 0) {
                pair.call("commit", transaction());
                return;
            }
            open[t] = true;
            for (int i = random.nextInt(4); i >= 0; i--) {
                pair.call("fill", random.nextInt(keys), 1 + random.nextInt(longest));
                pair.call("put", t, 1 + random.nextInt(keys > 20 ? 40 : 1));
            }
            if (random.nextInt(patience) > 0 || patience == 1) {
                pair.call("commit", t);
            }
            return;
        }
        if (random.nextInt(6) == 0) {
            fileCall();
            return;
        }
        int file = pair.model.count(1) == 0 ? 1 : 1 + random.nextInt(1 + pair.model.count(6));
        pair.call("fill", random.nextInt(256), 1000);
        pair.call("fill", random.nextInt(256), 1000);
        pair.call("write", file, random.nextInt(pick(512, 3000, 14385)));
    }

    private int number() {
        return random.nextInt(Math.min(201, 3 + names));
    }

    private void fileCall() {
        emptyTape();
        switch (random.nextInt(12)) {
            case 0, 1, 2 -> {
                pair.tape(name());
                pair.call("make", random.nextInt(3) == 0 ? number() : 0, random.nextInt(3) == 0);
            }
            case 3 -> {
                pair.tape(name());
                pair.call("remove", random.nextInt(3) == 0 ? number() : 0);
            }
            case 4 -> {
                byte[] name = name();
                pair.tape(join(name, name()));
                pair.call("rename", random.nextBoolean() ? number() : 0, random.nextBoolean() ? number() : 0, name.length);
            }
            case 5 -> {
                byte[] path = random.nextInt(9) == 0 ? new byte[0] : name();
                for (int i = random.nextInt(3); i > 0; i--) {
                    path = join(join(path, new byte[] {47}), name());
                }
                pair.tape(path);
                pair.call("find");
            }
            case 6, 7, 8 -> {
                pair.tape(bytes(1 + random.nextInt(pick(20, 1000, 2000))));
                pair.call("write", number(), random.nextInt(pick(600, 3000, 16384)));
            }
            case 9 -> {
                pair.call("resize", number(), random.nextInt(pick(600, 3000, 16385)));
            }
            case 10 -> {
                pair.call("read", number(), random.nextInt(pick(600, 3000, 16385)), random.nextInt(1001));
                pair.call("word", random.nextInt(1000));
            }
            default -> {
                pair.call("list", random.nextBoolean() ? number() : 0, random.nextInt(4) - 1);
                pair.call("about", number(), random.nextInt(4));
            }
        }
    }

    private void careCall() {
        switch (random.nextInt(5)) {
            case 0 -> pair.call("flush");
            case 1 -> pair.call("compact", false);
            case 2 -> pair.call("compact", true);
            case 3 -> pair.call("collect");
            default -> pair.call("mount");
        }
    }

    private void cutCall() {
        pair.call("cut", random.nextInt(4) == 0, random.nextInt(pick(2, 6, 40)), random.nextInt(pick(3, 30, 3000)));
        if (random.nextInt(3) == 0) {
            careCall();
        }
    }

    private void wrongCall() {
        int x = pick(-1, 0, 7, 8, 40, 41, 200, 201, 1000, 1001, 16384, 16385, Integer.MAX_VALUE, Integer.MIN_VALUE);
        int y = pick(-1, 0, 1, 30, 31, 40, 41, 255, 256, 1000, 1001, 16384, 16385, Integer.MAX_VALUE);
        switch (random.nextInt(22)) {
            case 0 -> pair.call("fill", y, x);
            case 1 -> pair.call("end", x);
            case 2 -> pair.call("put", x, y);
            case 3 -> pair.call("delete", x);
            case 4 -> pair.call("get", x);
            case 5 -> pair.call("seek", x, true);
            case 6 -> pair.call("commit", x);
            case 7 -> pair.call("abort", x);
            case 8 -> pair.call("cut", true, x, y);
            case 9 -> pair.call("word", x);
            case 10 -> pair.call("count", x);
            case 11 -> pair.call("faults", x);
            case 12 -> pair.call("make", x, true);
            case 13 -> pair.call("remove", x);
            case 14 -> pair.call("rename", x, y, 1);
            case 15 -> pair.call("rename", 0, 0, y);
            case 16 -> pair.call("write", x, y);
            case 17 -> pair.call("read", x, y, x);
            case 18 -> pair.call("resize", x, y);
            case 19 -> pair.call("list", x, y);
            case 20 -> pair.call("about", x, y);
            default -> pair.call("feed", x, y, x, y, x);
        }
    }

    private boolean run() {
        int sum = keyWeight + fileWeight + careWeight + cutWeight + wrongWeight;
        while (pair.calls < calls && !pair.wrong) {
            if (pair.model.count(1) == 0) {
                if (random.nextInt(5) == 0) {
                    pair.call("cut", random.nextInt(4) == 0, random.nextInt(8), random.nextInt(pick(3, 3000)));
                }
                pair.call(random.nextInt(8) == 0 ? "flush" : "mount");
                java.util.Arrays.fill(open, false);
            }
            int what = random.nextInt(sum);
            if (dense && what < keyWeight + fileWeight && random.nextInt(10) > 0) {
                denseCall();
            } else if (what < keyWeight) {
                keyCall();
            } else if (what < keyWeight + fileWeight) {
                fileCall();
            } else if (what < keyWeight + fileWeight + careWeight) {
                careCall();
            } else if (what < keyWeight + fileWeight + careWeight + cutWeight) {
                cutCall();
            } else {
                wrongCall();
            }
            if (random.nextInt(25) == 0) {
                pair.compareAll();
            }
        }
        // Behind the run: what it left is walked over, as it is and as the chip alone tells it.
        pair.compareAll();
        pair.compareContents();
        pair.call("mount");
        pair.call("mount");
        pair.compareAll();
        pair.compareContents();
        return !pair.wrong;
    }

    private static int wrongRuns(int runs, int calls, long first) {
        int wrong = 0;
        for (long seed = first; seed < first + runs && wrong < 5; seed++) {
            if (!new RandomRunsTest(seed, calls).run()) {
                wrong++;
            }
        }
        System.out.println(runs + " random runs of " + calls + " calls: " + wrong + " went wrong");
        return wrong;
    }

    /** Without arguments: runs as long as the document allows, and some far longer, which wear the chip more. */
    public static void main(String[] args) {
        int wrong = 0;
        if (args.length == 3) {
            wrong = wrongRuns(Integer.parseInt(args[0]), Integer.parseInt(args[1]), Long.parseLong(args[2]));
        } else {
            wrong = wrongRuns(3000, 512, 1) + wrongRuns(60, 10000, 1000001);
        }
        System.out.println(wrong == 0 ? "all random runs are as due" : "random runs went wrong");
        if (wrong > 0) {
            System.exit(1);
        }
    }
}
