/** Loads that wear the chip in the ways that leave the fewest free blocks; also far beyond 512 calls. */
public final class ChurnTest {
    private static int wrong = 0;

    private static void due(Pair pair) {
        pair.compareAll();
        pair.compareContents();
        pair.call("mount");
        pair.compareAll();
        pair.compareContents();
        if (pair.wrong) {
            wrong++;
        }
    }

    private static String key(int i) {
        return "" + (char) (i & 255) + (char) (i >> 8);
    }

    private static void put(Pair pair, int t, String key, int v, int n) {
        pair.tape(key);
        if (n > 0) {
            pair.call("fill", v & 255, n);
        }
        pair.call("put", t, key.length());
    }

    private static void commitOne(Pair pair, String key, int v, int n) {
        int t = pair.number("begin");
        put(pair, t, key, v, n);
        pair.call("commit", t);
    }

    /** Each mount leaves a block of the log behind in which one small record is needed. */
    private static void oneSmallRecordInEachBlock(int size, int rounds) {
        Pair pair = new Pair("one small record in each block, size " + size, size);
        for (int i = 0; i < rounds && !pair.wrong; i++) {
            commitOne(pair, key(i % 500), i, i % 20);
            pair.call("mount");
            pair.watch();
        }
        due(pair);
    }

    /** The power fails in each second commit; each mount is cut once too. */
    private static void failedCommits(int size, int rounds) {
        Pair pair = new Pair("failed commits, size " + size, size);
        for (int i = 0; i < rounds && !pair.wrong; i++) {
            commitOne(pair, key(i % 300), i, i % 50);
            pair.call("cut", i % 5 == 0, i, i * 7 % 60);
            commitOne(pair, key(i % 300), i, 40);
            pair.call("cut", i % 5 == 1, i % 5, i * 31 % 2048);
            pair.call("mount");
            pair.call("mount");
            pair.watch();
        }
        due(pair);
    }

    /** Values of which no two go into one block, up to the limit, each changed again and again. */
    private static void oneLongRecordInEachBlock(int size, int rounds) {
        Pair pair = new Pair("one long record in each block, size " + size, size);
        int keys = pair.model.count(4) / 1064;
        String tail = "x".repeat(38);
        for (int i = 0; i < rounds && !pair.wrong; i++) {
            commitOne(pair, key(i * 7 % keys) + tail, i, 1000);
            pair.watch();
        }
        due(pair);
    }

    /** A small record that stays beside a long one that is changed: every block keeps a little. */
    private static void littleStaysInEachBlock(int size, int rounds) {
        Pair pair = new Pair("a little stays in each block, size " + size, size);
        for (int i = 0; i < rounds && !pair.wrong; i++) {
            int t = pair.number("begin");
            put(pair, t, key(i % 400), i, 10 + i % 5);
            put(pair, t, "long", i, 1000);
            put(pair, t, "long2", i, 900);
            pair.call("commit", t);
            pair.watch();
        }
        due(pair);
    }

    /** The same with a power that fails deep in the clearing that a commit needs, and in the mending. */
    private static void failedClearings(int size, int rounds) {
        Pair pair = new Pair("failed clearings, size " + size, size);
        for (int i = 0; i < rounds && !pair.wrong; i++) {
            int t = pair.number("begin");
            put(pair, t, key(i % 280), i, 10 + i % 5);
            for (int k = 0; k < 20; k++) {
                put(pair, t, "short" + k, i, k % 5);
            }
            put(pair, t, "long", i, 1000);
            put(pair, t, "long2", i, 900);
            if (i % 2 == 0) {
                pair.call("cut", false, i / 2, i * 131 % 2100);
            }
            pair.call("commit", t);
            if (i % 2 == 0) {
                pair.call("cut", false, i % 7, i * 77 % 2100);
                pair.call("mount");
                pair.call("mount");
            }
            pair.watch();
        }
        due(pair);
    }

    /** All transactions open, each seeing another moment of the same keys. */
    private static void manyVersions(int size, int rounds) {
        Pair pair = new Pair("many versions, size " + size, size);
        int[] open = new int[7];
        java.util.Arrays.fill(open, -1);
        for (int i = 0; i < rounds && !pair.wrong; i++) {
            int slot = i % 7;
            if (open[slot] >= 0) {
                pair.tape(key(i % 9));
                pair.call("get", open[slot]);
                pair.call("word", 0);
                pair.call("abort", open[slot]);
            }
            open[slot] = pair.number("begin");
            int t = pair.number("begin");
            for (int k = 0; k < 4; k++) {
                put(pair, t, key((i + k) % 9), i, 150 + i % 37);
            }
            pair.tape(key((i + 5) % 9));
            pair.call("delete", t);
            pair.call("commit", t);
            if (i % 50 == 3) {
                pair.call("collect");
            }
            if (i % 50 == 30) {
                pair.compareAll();
            }
        }
        due(pair);
    }

    /** Many keys taken out again: tables full of entries that only hide others. */
    private static void keysThatGo(int size, int rounds) {
        Pair pair = new Pair("keys that go, size " + size, size);
        for (int i = 0; i < rounds && !pair.wrong; i++) {
            int t = pair.number("begin");
            for (int k = 0; k < 16; k++) {
                put(pair, t, key(i * 16 + k), 1, 0);
                pair.tape(key(i * 16 + k - 40));
                pair.call("delete", t);
            }
            pair.call("commit", t);
            if (i % 3 == 0) {
                pair.call("flush");
            }
            if (i % 40 == 7) {
                pair.call("mount");
                pair.compareAll();
            }
        }
        due(pair);
    }

    /** Files written over and over, made and removed, with the numbers used anew. */
    private static void filesThatChange(int size, int rounds) {
        Pair pair = new Pair("files that change, size " + size, size);
        for (int i = 0; i < rounds && !pair.wrong; i++) {
            pair.tape("f" + i % 3);
            pair.call("make", 0, false);
            pair.tape("f" + i % 3);
            int file = pair.number("find");
            for (int k = 0; k < 3; k++) {
                pair.call("fill", i & 255, 1000);
                pair.call("fill", k, 1000);
                pair.call("write", file, (i * 37 + k * 1777) % 14000);
            }
            pair.call("resize", file, i * 97 % 16384);
            if (i % 4 == 3) {
                pair.tape("f" + (i + 1) % 3);
                pair.call("remove", 0);
            }
            if (i % 20 == 9) {
                pair.compareAll();
            }
        }
        due(pair);
    }

    /** The limit is filled with the smallest records that there are. */
    private static void fullOfSmallRecords(int size) {
        Pair pair = new Pair("full of small records, size " + size, size);
        boolean full = false;
        for (int i = 0; i < 100 && !full && !pair.wrong; i++) {
            int t = pair.number("begin");
            for (int k = 0; k < 32; k++) {
                int n = i * 32 + k;
                put(pair, t, n < 256 ? "" + (char) n : key(n), 0, 0);
            }
            full = pair.call("commit", t).startsWith("throws");
            if (full) {
                pair.call("abort", t);
            }
            if (i % 7 == 3) {
                pair.call("collect");
                pair.call("mount");
            }
        }
        for (int i = 0; i < 300 && !pair.wrong; i++) {
            commitOne(pair, key(300 + i), 0, 0);
            pair.watch();
        }
        due(pair);
    }

    /** Collecting without end must not use blocks up. */
    private static void careWithoutEnd(int size) {
        Pair pair = new Pair("care without end, size " + size, size);
        for (int i = 0; i < 40; i++) {
            commitOne(pair, key(i), i, i * 9);
            if (i % 3 == 0) {
                pair.call("mount");
            }
        }
        for (int i = 0; i < 400 && !pair.wrong; i++) {
            pair.call(i % 3 == 0 ? "flush" : "collect");
            pair.call("compact", i % 10 == 0);
            pair.watch();
        }
        due(pair);
    }

    public static void main(String[] args) {
        for (int size = 0; size < 3; size++) {
            oneSmallRecordInEachBlock(size, 1200);
            failedCommits(size, 500);
            oneLongRecordInEachBlock(size, 600);
            littleStaysInEachBlock(size, 1000);
            failedClearings(size, 600);
            manyVersions(size, 600);
            keysThatGo(size, 300);
            filesThatChange(size, 300);
            fullOfSmallRecords(size);
            careWithoutEnd(size);
        }
        System.out.println(wrong == 0 ? "the chip bears all loads" : wrong + " loads went wrong");
        if (wrong != 0) {
            System.exit(1);
        }
    }
}
