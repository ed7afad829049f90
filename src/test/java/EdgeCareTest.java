/** The boundary cases of promises 12 to 16, 19 and 20, sentence by sentence. */
public final class EdgeCareTest {
    private static final int LEAST = Integer.MIN_VALUE;
    private static final int MOST = Integer.MAX_VALUE;

    private static void due(Due d, String what, int got, int due) {
        if (got != due) {
            Due.tell(d.title + ": " + what + " " + got + ", due is " + due);
        }
    }

    // ---- 12 and 13: flush, compact ----

    private static void flush() {
        Due d = Due.edge("Promise 12", "What lies in memory alone goes to tables on the CHIP");
        d.is(0, "flush");
        due(d, "tables of nothing", Inside.tables(d.vault), 0);
        d.commit("a", "1").is(0, "begin").commit("a", "2").commitOut("a").commitOut("none").file("f", 1);
        due(d, "in memory alone, some", Inside.alone(d.vault) > 0 ? 1 : 0, 1);
        d.is(26 + 25 + 28 + 63, "flush");
        due(d, "in memory alone", Inside.alone(d.vault), 0);
        due(d, "tables", Inside.tables(d.vault), 1);
        d.is(142, "flush").is(142, "flush");
        due(d, "tables, nothing being new", Inside.tables(d.vault), 1);
        d.has(0, "a", "1").sound(1).is(0, "abort", 0).is(63, "flush").is(5, "mount").sound(1);
        // as much as memory may ever hold
        Due e = Due.edge("Promise 12", "What lies in memory alone goes to tables on the CHIP");
        for (int i = 0; i < 12; i++) {
            e.is(0, "begin");
            for (int k = 0; k < 12; k++) {
                e.put(k + 1, 0, "" + (char) (i * 12 + k), "");
            }
            e.is(i + 1, "commit", 0);
        }
        e.is(144 * 25, "flush").sound(144);
        due(e, "in memory alone", Inside.alone(e.vault), 0);
        severalBlocks();
        Due g = Due.edge("Promise 12", "Answers NEEDED");
        g.is(0, "flush").commit("a", "1").is(26, "flush").commitOut("a").is(0, "flush").commit("a", "1").is(0, "begin").commitOut("a").is(51, "flush");
    }

    /** The longest keys: their entries go over the ends of blocks. */
    private static void severalBlocks() {
        Due d = Due.edge("Promise 12", "What lies in memory alone goes to tables on the CHIP");
        for (int i = 0; i < 3; i++) {
            d.is(0, "begin");
            for (int k = 0; k < 32; k++) {
                d.tape(i * 32 + k, 40).is(k + 1, "put", 0, 40);
            }
            d.is(i + 1, "commit", 0);
        }
        d.is(96 * 64, "flush");
        due(d, "blocks of tables, more than one", Inside.tableBlocks(d.vault) > 1 ? 1 : 0, 1);
        d.sound(96).is(3, "mount").sound(96).is(96 * 64, "compact", true).sound(96).is(3, "mount").sound(96).tape(95, 40).is(0, "begin").is(0, "get", 0);
        for (int i = 0; i < 95; i += 10) {
            d.tape(i, 40).is(40, "seek", 0, true).is((i + 1) * 0x0101010101010101L, "word", 0);
        }
    }

    private static void compact() {
        Due d = Due.edge("Promise 13", "A step of merging tables, or all of them (whole)");
        d.is(0, "compact", false).is(0, "compact", true);
        due(d, "tables of nothing", Inside.tables(d.vault), 0);
        int tables = 0;
        for (int i = 0; i < 3; i++) {
            d.commit("" + i, "v").is(26 * (i + 1), "flush");
            tables = Inside.tables(d.vault);
        }
        due(d, "tables", tables, 3);
        for (int i = 0; i < 4; i++) {
            d.is(78, "compact", false);
            int now = Inside.tables(d.vault);
            due(d, "a step makes fewer tables", now < tables || now == 1 ? 1 : 0, 1);
            tables = now;
        }
        due(d, "tables behind all steps", tables, 1);
        // two tables on different levels are merged by a step too
        for (int i = 0; i < 3; i++) {
            d.commit("0", "" + i).is(78, "flush");
            due(d, "tables, a new one beside the merged", Inside.tables(d.vault), 2);
            d.is(78, "compact", false).sound(3);
            due(d, "tables, these two merged", Inside.tables(d.vault), 1);
        }
        // a whole one with a part in memory alone, and of what was taken out in the meantime
        d.commit("1", "w").is(78, "flush").commitOut("2").is(52, "flush").commit("3", "").is(77, "compact", true);
        due(d, "tables behind a whole one", Inside.tables(d.vault), 1);
        d.is(77, "compact", true).sound(3).is(9, "mount").is(77, "compact", true).sound(3);
        // nothing is left
        d.commitOut("0").commitOut("1").commitOut("3").is(0, "flush").is(0, "compact", true).sound(0).is(12, "mount").sound(0);
        due(d, "tables of nothing any more", Inside.tables(d.vault), 0);
        Due g = Due.edge("Promise 13", "Answers NEEDED");
        g.is(0, "compact", true).commit("a", "1").is(26, "compact", false).is(0, "begin").commitOut("a").is(51, "compact", true).is(51, "compact", false);
    }

    // ---- 14: collect ----

    private static void collect() {
        Due d = Due.edge("Promise 14", "The BLOCK of the log in which the least is still NEEDED is cleared");
        d.is(0, "collect").sound(0);
        // a block each, nearly: in the second only little is left, in the others all
        d.commit("a", "1".repeat(1000)).commit("b", "2".repeat(900)).commit("c", "3".repeat(1000)).commit("d", "4").commit("e", "5".repeat(900)).commit("f", "6".repeat(1000));
        d.commitOut("c").commitOut("e");
        int[] before = Inside.logs(d.vault);
        due(d, "blocks of the log", before.length, 3);
        d.is(1025 + 925 + 26 + 1025, "collect").sound(4);
        int[] after = Inside.logs(d.vault);
        due(d, "the first stays", contains(after, before[0]), 1);
        due(d, "the second is cleared", contains(after, before[1]), 0);
        due(d, "the third stays", contains(after, before[2]), 1);
        // now the least is needed in the third, then in the first
        d.commitOut("f").commit("f", "6").commitOut("b").is(1025 + 26 + 26, "collect").sound(3);
        due(d, "the first stays", contains(Inside.logs(d.vault), before[0]), 1);
        due(d, "the third is cleared", contains(Inside.logs(d.vault), before[2]), 0);
        d.commit("g", "7".repeat(900)).commit("h", "8".repeat(1000)).commit("i", "9".repeat(900)).commitOut("a").commit("a", "1");
        d.is(26 * 3 + 925 + 1025 + 925, "collect");
        due(d, "the first is cleared", contains(Inside.logs(d.vault), before[0]), 0);
        d.sound(6).is(16, "mount").sound(6).is(0, "begin").has(0, "d", "4").has(0, "a", "1");
        Due e = Due.edge("Promise 14", "that is written anew elsewhere");
        e.commit("a", "1".repeat(1000)).commit("b", "").is(0, "begin").commit("a", "2").commitOut("b").file("f", 1).tape(7, 2000).is(2000, "write", 1, 0);
        for (int i = 0; i < 20; i++) {
            e.is(1025 + 25 + 26 + 25 + 63 + 2000 + 4 * 27, "collect");
        }
        e.tape("a").is(1000, "get", 0).has(0, "b", "").is(1000, "read", 1, 1000, 1000).is(0x0707070707070707L, "word", 992).sound(2).is(0, "abort", 0).is(6, "mount").sound(2);
        // all is needed, and nothing is
        Due g = Due.edge("Promise 14", "Answers NEEDED");
        g.is(0, "collect").commit("a", "1").is(26, "collect").commitOut("a").is(0, "collect").is(0, "collect").sound(0).commit("a", "1").is(0, "begin").commitOut("a").is(51, "collect");
    }

    private static int contains(int[] row, int v) {
        for (int i : row) {
            if (i == v) {
                return 1;
            }
        }
        return 0;
    }

    // ---- 15: cut ----

    private static void cut() {
        Due d = Due.edge("Promise 15", "n, b 0 or more");
        d.is(Due.ARGUMENT, "cut", false, -1, 0).is(Due.ARGUMENT, "cut", false, 0, -1).is(Due.ARGUMENT, "cut", true, -1, 0).is(Due.ARGUMENT, "cut", true, 0, -1);
        d.is(Due.ARGUMENT, "cut", true, LEAST, MOST).is(Due.ARGUMENT, "cut", true, MOST, LEAST).is(0, "count", 9).is(0, "cut", false, 0, 0).is(1, "cut", true, MOST, MOST);
        d.is(Due.ARGUMENT, "cut", true, -1, -1).is(1, "count", 9);
        Due e = Due.edge("Promise 15", "A CUT waits, LATE or not, in place of one that waited");
        e.is(0, "cut", false, 0, 0).is(1, "cut", true, 0, 0).commitNot("a").is(1, "mount").is(0, "cut", true, 0, 0).is(1, "cut", false, 0, 0).commitNot("b").is(1, "mount");
        // one that is refused does not come in its place
        e.is(0, "cut", true, 0, 0).is(Due.ARGUMENT, "cut", false, -1, 0).commitNot("c").is(2, "mount").is(0, "begin").has(0, "b", null).has(0, "c", "v").sound(2);
        Due g = Due.edge("Promise 15", "Answers 1 if one waited, else 0");
        g.is(0, "cut", false, 0, 0).is(1, "cut", false, 0, 0).is(1, "cut", true, 0, 0).is(Due.STATE, "flush").is(0, "cut", false, 0, 0).is(1, "cut", true, 9, 9);
        Due h = Due.edge("Promise 15", "(Also when it is DOWN.)");
        h.commit("a", "").down().is(0, "cut", false, 0, 0).is(1, "count", 9).is(1, "cut", true, 0, 0).is(Due.ARGUMENT, "cut", true, -1, 0).is(0, "count", 1).is(Due.STATE, "mount");
        h.is(0, "count", 9).is(0, "cut", false, MOST, MOST).is(Due.STATE, "mount").is(1, "mount").sound(1);
    }

    /** A commit of two keys into a block that was begun; answers how many bytes came to the chip until the power failed. */
    private static int writtenByCut(Due d, int n, int b) {
        d.commit("first", "").is(0, "begin").put(1, 0, "a", "12345").put(2, 0, "b", "1234567890").is(0, "cut", false, n, b);
        int before = Inside.written(d.vault);
        d.is(Due.STATE, "commit", 0);
        int written = Inside.written(d.vault) - before;
        d.is(1, "mount").is(1, "count", 5).sound(1);
        return written;
    }

    private static void partsAndBytes() {
        // a record has 9 bytes, the key with one before it, and the value; a mark has 9
        int[] parts = {9 + 2 + 5, 9 + 2 + 10, 9};
        int sum = 0;
        for (int n = 0; n < 3; n++) {
            for (int again : new int[] {0, 3, 3000000, MOST / 3 * 3}) {
                for (int b : new int[] {0, 1, 5, parts[n] - 1, parts[n], MOST}) {
                    if (n + again < 0) {
                        continue;
                    }
                    Due d = Due.edge("Promise 15", "of a commit modulo the number of its parts), with b bytes of that written, as far as there are such");
                    due(d, "bytes of part " + (n + again) + ", byte " + b + ":", writtenByCut(d, n + again, b), sum + Math.min(b, parts[n] - 1));
                }
            }
            sum += parts[n];
        }
        Due e = Due.edge("Promise 15", "when it is not LATE the power fails in the n-th part that the call writes (from 0");
        e.commit("a", "1");
        int before = Inside.written(e.vault);
        e.is(0, "cut", false, 0, 0).is(Due.STATE, "flush");
        due(e, "bytes of part 0, byte 0:", Inside.written(e.vault) - before, 0);
        for (int n = 0; n < 6; n++) {
            for (int b : new int[] {0, 1, 2047, MOST}) {
                e.is(0, "cut", false, n, b).is(Due.STATE, "mount").is(1, "mount").sound(1).is(26, "flush");
            }
        }
    }

    // ---- 16: mount ----

    private static void mount() {
        Due d = Due.edge("Promise 16", "Whether it is UP or DOWN: it goes DOWN (as by a failing power), mends what is on the CHIP, and comes UP");
        d.is(0, "mount").is(1, "count", 1).commit("a", "1").is(0, "begin").is(1, "begin").put(1, 0, "b", "").tape("a").is(1, "get", 1).tape("tape").is(1, "mount");
        d.is(1, "count", 1).is(0, "count", 2).is(0, "count", 7).is(0, "count", 8).is(Due.NONE, "commit", 0).is(Due.INDEX, "word", 0).is(1, "count", 5);
        d.is(0, "begin").has(0, "b", null).has(0, "a", "1").down().is(1, "mount").is(1, "count", 1).is(1, "mount").sound(1);
        // what a transaction alone needed is not needed any more
        d.is(0, "begin").commit("a", "22").commitOut("a").needed(26 + 25).is(3, "mount").needed(0).sound(0);
        Due e = Due.edge("Promise 16", "With a CUT: IllegalStateException, and it is DOWN");
        e.commit("a", "1").is(0, "begin").tape("a").is(1, "get", 0).tape("tape");
        for (int i = 0; i < 12; i++) {
            e.is(0, "cut", i % 3 == 1, i / 2, i * 40).is(Due.STATE, "mount").is(0, "count", 1).is(0, "count", 2).is(0, "count", 7).is(0, "count", 8).is(0, "count", 9);
            e.is(Due.STATE, "flush");
        }
        e.is(1, "mount").sound(1).is(0, "begin").has(0, "a", "1");
        Due g = Due.edge("Promise 16", "Answers the PRESENT MOMENT");
        g.is(0, "mount").commit("a", "1").is(1, "mount").commitOut("a").is(2, "mount").file("f", 1).is(3, "mount").tape("f").is(1, "remove", 0).is(4, "mount");
        g.is(0, "flush").is(0, "compact", true).is(0, "collect").is(4, "mount").is(4, "mount").moment(4).commit("a", "").moment(5);
    }

    /** So many moments as 512 calls can make, with a mount behind them. */
    private static void mostMoments() {
        Due d = Due.edge("Promise 16", "Answers the PRESENT MOMENT");
        d.file("f", 1);
        for (int i = 0; i < 500; i++) {
            d.is(i == 0 ? 0 : (i + 1) % 2 + 1, "resize", 1, i % 2 + 1);
        }
        d.moment(501).is(501, "mount").sound(1);
    }

    // ---- 19 and 20: faults, check ----

    private static void faults() {
        Due d = Due.edge("Promise 19", "what 0 .. 5");
        d.is(Due.ARGUMENT, "faults", -1).is(Due.ARGUMENT, "faults", 6).is(Due.ARGUMENT, "faults", LEAST).is(Due.ARGUMENT, "faults", MOST).sound(0);
        d.down();
        for (int what = 0; what <= 5; what++) {
            d.is(0, "faults", what);
        }
        d.is(Due.ARGUMENT, "faults", 6).is(Due.ARGUMENT, "faults", -1);
        Due e = Due.edge("Promise 19", "What the store's own watch found since the beginning (mount does not forget it): 0 bytes that were written and not erased before, 1 records that were not where a table said");
        String[][] counters = {{"chip", "overwritten"}, {"log", "misplaced"}, {"log", "heavyClearings"}, {"tables", "grownMerges"}, {"layout", "takenNotFree"}, {"layout", "noBlock"}};
        e.commit("a", "1");
        for (int what = 0; what <= 5; what++) {
            Inside.set(Inside.get(e.vault, counters[what][0]), counters[what][1], 10 + what);
        }
        for (int round = 0; round < 3; round++) {
            for (int what = 0; what <= 5; what++) {
                e.is(10 + what, "faults", what);
            }
            e.is(26, "flush").is(26, "collect").is(0, "cut", round == 1, 0, 0).is(Due.STATE, "mount").is(13, "faults", 3).is(1, "mount");
        }
        Due g = Due.edge("Promise 19", "(Each is 0 in a store that is right.)");
        Stays.full(g.vault);
        g.sound(6).is(16384, "flush").is(16384, "collect").is(16384, "collect").is(16384, "compact", true).sound(6).is(15, "mount").sound(6);
    }

    private static void check() {
        Due d = Due.edge("Promise 20", "what counts 5 and 6 are together, if all of it is there and in order on the CHIP and in memory");
        d.is(0, "check").commit("a", "").is(1, "check").file("f", 1).is(2, "check").directory("d", 2).is(3, "check").commitOut("a").is(2, "check");
        d.is(0, "begin").put(1, 0, "b", "").is(2, "check").is(5, "commit", 0).is(3, "check").tape("tape").is(3, "check").is(4, "count", 7);
        d.is(0, "cut", false, 0, 0).is(3, "check").is(1, "count", 9).is(Due.STATE, "flush").is(Due.STATE, "check").is(5, "mount").is(3, "check");
        Due e = Due.edge("Promise 20", "else -1");
        e.commit("abc", "value").is(1, "check");
        byte[] cells = (byte[]) Inside.get(e.vault, "chip", "cells");
        int at = Inside.logs(e.vault)[0] * 2048;
        for (int i = 0; i < 9 + 4 + 5; i++) {
            // each byte of the record but those of the value, which nothing but itself tells
            boolean value = i >= 8 + 4 && i < 8 + 4 + 5;
            cells[at + i] ^= 1;
            e.is(value ? 1 : -1, "check");
            cells[at + i] ^= 1;
        }
        e.is(1, "check").is(32, "flush").is(1, "check");
        // the record of an empty value, which nothing but its key tells
        Due f = Due.edge("Promise 20", "else -1");
        f.commit("abc", "").is(27, "flush").is(1, "check");
        byte[] others = (byte[]) Inside.get(f.vault, "chip", "cells");
        int key = Inside.logs(f.vault)[0] * 2048 + 9;
        others[key] ^= 1;
        f.is(-1, "check").is(0, "faults", 1).is(1, "mount").is(-1, "check");
        due(f, "records that were not where a table said, some", f.vault.faults(1) > 0 ? 1 : 0, 1);
        notInOrder();
    }

    private static void notInOrder() {
        Due d = Due.edge("Promise 20", "if all of it is there and in order on the CHIP and in memory");
        d.commit("a", "1").commit("b", "1").is(52, "flush").is(2, "check");
        // two entries of a table, each with 10 bytes and the key with one before it, change places
        byte[] cells = (byte[]) Inside.get(d.vault, "chip", "cells");
        int table = Inside.tableBlock(d.vault) * 2048;
        swap(cells, table, table + 12, 12);
        d.is(-1, "check");
        swap(cells, table, table + 12, 12);
        d.is(2, "check");
        // a block that is in two places at once
        Object layout = Inside.get(d.vault, "layout");
        int[] logs = (int[]) Inside.get(layout, "logs");
        int n = Inside.number(layout, "logCount");
        logs[n] = logs[0];
        Inside.set(layout, "logCount", n + 1);
        d.is(-1, "check");
        Inside.set(layout, "logCount", n);
        d.is(2, "check");
        // a table that is said to be longer or shorter than it is
        Object run = ((Object[]) Inside.get(layout, "runs"))[0];
        int length = Inside.number(run, "length");
        for (int wrong : new int[] {length - 1, length + 1, length - 12, 0}) {
            Inside.set(run, "length", wrong);
            d.is(-1, "check");
        }
        Inside.set(run, "length", length);
        d.is(2, "check");
    }

    private static void swap(byte[] row, int i, int j, int n) {
        for (int k = 0; k < n; k++) {
            byte b = row[i + k];
            row[i + k] = row[j + k];
            row[j + k] = b;
        }
    }

    public static void main(String[] args) {
        flush();
        compact();
        collect();
        cut();
        partsAndBytes();
        mount();
        mostMoments();
        faults();
        check();
        Due.finish();
    }
}
