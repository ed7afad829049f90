/** The power fails in each part of each call that writes, at many bytes of it, and again while that is mended. */
public final class PowerTest {
    private static int wrong = 0;
    private static int cases = 0;

    private interface Act {
        void on(Pair pair);
    }

    private static void put(Pair pair, int t, String key, int v, int n) {
        pair.tape(key);
        if (n > 0) {
            pair.call("fill", v, n);
        }
        pair.call("put", t, key.length());
    }

    /** Keys of several moments, some taken out, some seen by an open transaction; files; tables on levels; a log behind them. */
    private static Pair base(String title) {
        Pair pair = new Pair(title, 0);
        for (int i = 0; i < 9; i++) {
            int t = pair.number("begin");
            put(pair, t, "k" + i % 4, 255, 50 + i * 40);
            put(pair, t, "\u00ff\u00ff" + i, 255, i % 3);
            pair.tape("k" + (i + 1) % 4);
            pair.call("delete", t);
            pair.call("commit", t);
            if (i % 3 == 1) {
                pair.call("flush");
            }
            if (i == 5) {
                pair.call("begin");
                pair.call("collect");
            }
        }
        pair.tape("dir\u00ff");
        pair.call("make", 0, true);
        pair.tape("file\u00ff");
        pair.call("make", 1, false);
        pair.call("fill", 255, 900);
        pair.call("write", 2, 100);
        pair.call("flush");
        pair.tape("g");
        pair.call("make", 0, false);
        pair.call("fill", 254, 600);
        pair.call("write", 3, 0);
        return pair;
    }

    private static final String[] NAMES = {"commit", "make", "remove", "rename", "write", "resize", "flush", "step", "whole", "collect", "mount"};

    private static final Act[] ACTS = {
        pair -> {
            int t = 1;
            pair.call("commit", t);
        },
        pair -> pair.call("make", 0, true),
        pair -> pair.call("remove", 1),
        pair -> pair.call("rename", 0, 1, 1),
        pair -> pair.call("write", 2, 400),
        pair -> pair.call("resize", 2, 300),
        pair -> pair.call("flush"),
        pair -> pair.call("compact", false),
        pair -> pair.call("compact", true),
        pair -> pair.call("collect"),
        pair -> pair.call("mount"),
    };

    /** What an act needs on the tape or in a transaction; not a call that writes. */
    private static void prepare(Pair pair, int act) {
        switch (act) {
            case 0 -> {
                int t = pair.number("begin");
                put(pair, t, "k0", 255, 30);
                put(pair, t, "new\u00ff", 255, 700);
                pair.tape("\u00ff\u00ff1");
                pair.call("delete", t);
                put(pair, t, "other", 90, 900);
            }
            case 1 -> pair.tape("new\u00ff");
            case 2 -> pair.tape("file\u00ff");
            case 3 -> pair.tape("gfile\u00ff");
            case 4 -> pair.call("fill", 255, 1000);
            default -> { }
        }
    }

    private static void run(int act, boolean late, int part, int bytes, int mendPart, int mendBytes) {
        String title = NAMES[act] + (late ? " late" : " part " + part + " byte " + bytes) + ", mending part " + mendPart + " byte " + mendBytes;
        Pair pair = base(title);
        prepare(pair, act);
        pair.call("cut", late, part, bytes);
        ACTS[act].on(pair);
        if (pair.model.count(1) != 0) {
            throw new Error(title + ": the power did not fail");
        }
        for (int round = 0; round < 2 && mendPart >= 0; round++) {
            pair.call("cut", mendPart == 9, mendPart, mendBytes);
            pair.call("mount");
        }
        pair.call("mount");
        pair.compareAll();
        pair.compareContents();
        // and it can be written as before
        int t = pair.number("begin");
        put(pair, t, "behind", 255, 300);
        pair.call("commit", t);
        pair.call("collect");
        pair.call("mount");
        pair.compareAll();
        cases++;
        if (pair.wrong) {
            wrong++;
        }
    }

    private static final int[] BYTES = {0, 1, 2, 3, 4, 7, 8, 9, 10, 13, 40, 700, 1500, 2046, 2047, 2048, 1000000};

    public static void main(String[] args) {
        for (int act = 0; act < ACTS.length; act++) {
            run(act, true, 0, 0, -1, 0);
            for (int part = 0; part < 24 && wrong < 5; part++) {
                for (int bytes : BYTES) {
                    run(act, false, part, bytes, -1, 0);
                }
            }
            for (int part = 0; part < 5 && wrong < 5; part++) {
                for (int mendPart = 0; mendPart < 10; mendPart++) {
                    run(act, false, part, 17 * part + mendPart, mendPart, 5 * mendPart * mendPart * mendPart);
                }
            }
        }
        // every byte of every part of a commit, and of the state that a flush writes
        for (int part = 0; part < 5 && wrong < 5; part++) {
            for (int bytes = 0; bytes < 130; bytes++) {
                run(0, false, part, bytes, -1, 0);
                run(6, false, part, bytes, -1, 0);
                run(10, false, part, bytes, -1, 0);
            }
        }
        System.out.println(wrong == 0 ? "the power failed in " + cases + " ways, nothing was lost" : wrong + " ways went wrong");
        if (wrong != 0) {
            System.exit(1);
        }
    }
}
