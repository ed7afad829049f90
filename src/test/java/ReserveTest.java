import java.lang.reflect.Field;
import java.lang.reflect.Method;

/**
 * Promise 19, what faults tells under 5: so many blocks stay free behind every call that all can be written anew,
 * whatever was called before and wherever the power failed. Loads are up to the limit, in the ways that fill blocks
 * worst; wears are rounds of calls that take a block each, where they can.
 */
public final class ReserveTest {
    private static int wrong = 0;
    private static int renewals = 0;

    private interface Load {
        void on(Pair pair);
    }

    private interface Wear {
        void on(Pair pair, int round);
    }

    // ---- looking inside ----

    private static int freeBlocks(FlashVault vault) throws Exception {
        Field layout = FlashVault.class.getDeclaredField("layout");
        layout.setAccessible(true);
        Field used = layout.get(vault).getClass().getDeclaredField("used");
        used.setAccessible(true);
        int n = 0;
        for (boolean b : (boolean[]) used.get(layout.get(vault))) {
            n += b ? 0 : 1;
        }
        return n;
    }

    private static boolean lacksReserve(FlashVault vault) throws Exception {
        Method m = FlashVault.class.getDeclaredMethod("lacksReserve");
        m.setAccessible(true);
        return (boolean) m.invoke(vault);
    }

    private static void reserveIsFree(Pair pair) throws Exception {
        pair.call("faults", 5);
        pair.call("count", 1);
        int free = freeBlocks(pair.vault);
        int blocks = pair.model.count(4) / 256;
        if (pair.model.count(1) == 1 && free < blocks * 3 / 8 && !pair.wrong) {
            pair.wrong = true;
            System.out.println(pair.title + ": only " + free + " blocks are free behind call " + pair.calls);
        }
    }

    // ---- loads ----

    private static int room(Pair pair) {
        return pair.model.count(4) - pair.model.count(3);
    }

    private static void put(Pair pair, int t, int key, int k, int n) {
        pair.call("fill", key & 255, k);
        if (n > 0) {
            pair.call("fill", key * 31 & 255, n);
        }
        pair.call("put", t, k);
    }

    private static void commitOne(Pair pair, int key, int k, int n) {
        int t = pair.number("begin");
        put(pair, t, key, k, n);
        if (pair.call("commit", t).equals("throws.IndexOutOfBoundsException")) {
            pair.call("abort", t);
        }
    }

    /** Records of which no two that follow each other go into one block. */
    private static void longRecords(Pair pair, int left) {
        for (int i = 0; i < 100 && room(pair) >= left + 1064; i++) {
            commitOne(pair, i, 40, i % 2 == 0 ? 1000 : 949);
        }
    }

    /** The records that have the longest entries in tables, for what they count. */
    private static void longKeys(Pair pair) {
        for (int i = 0; i < 10 && room(pair) >= 64; i++) {
            int t = pair.number("begin");
            int n = Math.min(32, room(pair) / 64);
            for (int k = 0; k < n; k++) {
                put(pair, t, 100 + i * 32 + k, 40 - (100 + i * 32 + k) / 256, 0);
            }
            pair.call("commit", t);
        }
    }

    /** A block for each file: its record is the only one that is needed there. */
    private static void lonelyFiles(Pair pair, int n) {
        for (int i = 1; i <= n; i++) {
            pair.call("fill", 100 + i, 1);
            pair.call("make", 0, false);
            if (i == 1) {
                writePieces(pair, 256);
                writePieces(pair, 2304);
            }
            pair.call("mount");
        }
    }

    private static void writePieces(Pair pair, int at) {
        pair.call("fill", 7, 1000);
        pair.call("fill", 8, 1000);
        pair.call("write", 1, at);
    }

    private static final String[] LOAD_NAMES = {"long records", "long keys", "long records and keys", "lonely files", "all kinds"};

    private static final Load[] LOADS = {
        pair -> longRecords(pair, 0),
        pair -> longKeys(pair),
        pair -> {
            longRecords(pair, pair.model.count(4) / 2);
            longKeys(pair);
        },
        pair -> lonelyFiles(pair, 40),
        pair -> {
            lonelyFiles(pair, 42);
            longRecords(pair, pair.model.count(4) / 3);
            longKeys(pair);
        },
    };

    // ---- wears ----

    private static void care(Pair pair, int round) {
        String[] names = {"flush", "compact", "collect", "compact", "mount"};
        String name = names[round % names.length];
        if (name.equals("compact")) {
            pair.call(name, round % 2 == 0);
        } else {
            pair.call(name);
        }
    }

    private static void cutAnd(Pair pair, int round, String name, Object... arguments) {
        pair.call("cut", false, round % 37, round * 7 % 13);
        pair.call(name, arguments);
        pair.call("mount");
    }

    private static final String[] WEAR_NAMES = {
        "collect", "collect, then compact", "mount and collect", "a key again", "a key again, mount",
        "a key taken out and back, mount", "files made and removed", "care of all kinds", "cut resize", "cut write",
        "cut commit", "cut collect", "cut compact", "cut flush behind a change", "cut mounts", "late cuts",
    };

    private static final Wear[] WEARS = {
        (pair, round) -> pair.call("collect"),
        (pair, round) -> {
            pair.call("collect");
            pair.call("compact", round % 2 == 0);
        },
        (pair, round) -> {
            pair.call("mount");
            pair.call("collect");
        },
        (pair, round) -> commitOne(pair, round % 14, 40, round % 2 == 0 ? 1000 : 949),
        (pair, round) -> {
            commitOne(pair, round % 14, 40, round % 2 == 0 ? 1000 : 949);
            pair.call("mount");
        },
        (pair, round) -> {
            int t = pair.number("begin");
            pair.call("fill", 3, 40);
            pair.call("delete", t);
            pair.call("commit", t);
            pair.call("mount");
            commitOne(pair, 3, 40, 949);
            pair.call("mount");
        },
        (pair, round) -> {
            pair.call("fill", 99, 30);
            pair.call(round % 2 == 0 ? "make" : "remove", round % 2 == 0 ? new Object[] {0, false} : new Object[] {0});
            pair.call("mount");
        },
        ReserveTest::care,
        (pair, round) -> cutAnd(pair, round, "resize", 1, 0),
        (pair, round) -> {
            pair.call("fill", round & 255, 1000);
            cutAnd(pair, round, "write", 1, 300);
        },
        (pair, round) -> {
            int t = pair.number("begin");
            for (int i = 0; i < 3; i++) {
                put(pair, t, i, 40, 1000);
            }
            cutAnd(pair, round, "commit", t);
        },
        (pair, round) -> cutAnd(pair, round, "collect"),
        (pair, round) -> cutAnd(pair, round, "compact", true),
        (pair, round) -> {
            commitOne(pair, round % 14, 40, 949);
            cutAnd(pair, round, "flush");
        },
        (pair, round) -> {
            commitOne(pair, round % 14, 40, 949);
            cutAnd(pair, round, "mount");
        },
        (pair, round) -> {
            pair.call("cut", true, 0, 0);
            commitOne(pair, round % 14, 40, 949);
            pair.call("mount");
        },
    };

    private static void wear(int size, int load, int wear, int rounds) throws Exception {
        Pair pair = new Pair(LOAD_NAMES[load] + ", " + WEAR_NAMES[wear] + ", size " + size, size);
        LOADS[load].on(pair);
        reserveIsFree(pair);
        for (int round = 0; round < rounds && !pair.wrong; round++) {
            WEARS[wear].on(pair, round);
            reserveIsFree(pair);
        }
        pair.compareAll();
        pair.compareContents();
        wrong += pair.wrong ? 1 : 0;
    }

    // ---- the power fails in a renewal ----

    /** The next call that writes renews all. */
    private static Pair base(String title) throws Exception {
        Pair pair = new Pair(title, 0);
        lonelyFiles(pair, 3);
        longRecords(pair, 6000);
        for (int i = 0; i < 80 && !lacksReserve(pair.vault); i++) {
            if (i % 2 == 0) {
                commitOne(pair, 60 + i, 40, 30);
            } else {
                pair.call("mount");
            }
        }
        if (!lacksReserve(pair.vault)) {
            throw new Error(title + ": nothing is to be renewed");
        }
        return pair;
    }

    private static final String[] ACTS = {"commit", "resize", "flush", "compact", "collect", "mount"};

    /** Part below 0: no cut. */
    private static void act(Pair pair, String name, int part, int bytes) {
        Object[] arguments = {};
        switch (name) {
            case "commit" -> {
                int t = pair.number("begin");
                for (int i = 0; i < 32; i++) {
                    put(pair, t, 60 + i, 40, 0);
                }
                arguments = new Object[] {t};
            }
            case "resize" -> arguments = new Object[] {1, 0};
            case "compact" -> arguments = new Object[] {true};
            default -> { }
        }
        if (part >= 0) {
            pair.call("cut", false, part, bytes);
        }
        pair.call(name, arguments);
    }

    private static void wholeRenewal(String name) throws Exception {
        Pair pair = base(name);
        act(pair, name, -1, 0);
        // what is needed here takes less than a quarter of the 64 blocks
        if (freeBlocks(pair.vault) < 48) {
            pair.wrong = true;
            System.out.println(pair.title + ": all was to be renewed");
        }
        pair.compareAll();
        pair.compareContents();
        wrong += pair.wrong ? 1 : 0;
    }

    private static void cutRenewal(String name, int part, int bytes) throws Exception {
        Pair pair = base(name + ", part " + part + ", byte " + bytes);
        act(pair, name, part, bytes);
        for (int again = 0; again < 3; again++) {
            pair.call("cut", false, part + again, bytes);
            pair.call("mount");
        }
        pair.call("mount");
        reserveIsFree(pair);
        pair.compareAll();
        pair.compareContents();
        renewals++;
        wrong += pair.wrong ? 1 : 0;
    }

    public static void main(String[] args) throws Exception {
        for (int load = 0; load < LOADS.length; load++) {
            for (int wear = 0; wear < WEARS.length && wrong < 5; wear++) {
                wear(0, load, wear, 130);
                wear(1 + wear % 2, load, wear, 130);
            }
        }
        for (String name : ACTS) {
            wholeRenewal(name);
            for (int part = 0; part < 72 && wrong < 5; part++) {
                cutRenewal(name, part, part % 3);
                cutRenewal(name, part, 400);
            }
        }
        System.out.println(wrong == 0 ? "the reserve stays free, also behind " + renewals + " renewals that were cut"
                : wrong + " loads went wrong");
        if (wrong != 0) {
            System.exit(1);
        }
    }
}
