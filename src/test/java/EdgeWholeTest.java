import java.nio.charset.StandardCharsets;
import java.util.Arrays;

/** The document's first sentences: what the store is made of, the power at any byte, and the 512 calls of an object. */
public final class EdgeWholeTest {
    private static final String WHOLE = "What it is";
    private static final int MOST_CALLS = 512;

    private static void due(Due d, String what, boolean fine) {
        if (!fine) {
            Due.tell(d.title + ": not so: " + what);
        }
    }

    // ---- keys, files, moments ----

    private static void filesBesideTheKeys() {
        Due d = Due.edge(WHOLE, "A key-value store on a flash chip, with a tree of files beside the keys");
        // the same bytes as a key, as names, and as what a file holds
        d.commit("a", "1").file("a", 1).directory("b", 2).tape("a").is(3, "make", 2, true).tape("a").is(4, "make", 3, false).tape("a").is(1, "write", 4, 0);
        d.is(0, "begin").has(0, "a", "1").seeks(0, "a", true, null).tape("b/a/a").is(4, "find").is(1, "read", 4, 0, 9).result("a").sound(5);
        d.delete(1, 0, "a").is(7, "commit", 0).tape("a").is(1, "find").tape("a").is(1, "remove", 0).is(8, "mount").tape("b/a/a").is(4, "find").sound(3);
        // a key may look like anything that is held inside
        Due e = Due.edge(WHOLE, "with a tree of files beside the keys");
        String[] keys = {"\0", "\1", "\1\1", "\2", "\2\1\0", "\1\u00c8", "Z", "\u00ff\u00ff"};
        for (String key : keys) {
            e.commit(key, key + key);
        }
        e.file("\1", 1).tape(90, 600).is(600, "write", 1, 0).is(27 * 2 + 63 + 600 + needed(keys), "flush");
        for (int round = 0; round < 3; round++) {
            e.is(0, "begin");
            for (String key : keys) {
                e.has(0, key, key + key);
            }
            e.is(600, "about", 1, 1).is(8, "read", 1, 592, 9).result("Z".repeat(8)).sound(keys.length + 1).is(10, "mount").is(717 + needed(keys), "collect");
        }
    }

    private static int needed(String[] keys) {
        return Arrays.stream(keys).mapToInt(key -> 24 + 3 * key.length()).sum();
    }

    /** At each moment all keys have the same value, so what a transaction sees is one moment or it shows. */
    private static void oneMoment() {
        Due d = Due.edge(WHOLE, "transactions that each see one moment");
        String[] keys = {"a", "ab", "b"};
        for (int t = 0; t < 8; t++) {
            d.is(t, "begin");
            for (int k = 0; k < keys.length; k++) {
                d.put(k + 1, t, keys[k], "" + t);
            }
            d.is(t + 1, "commit", t).is(t, "begin");
            if (t == 3) {
                d.is((24 * 3 + 4 + 3) * 4, "flush").is((24 * 3 + 4 + 3) * 4, "collect");
            }
        }
        d.is(79 * 8, "compact", true);
        for (int t = 7; t >= 0; t--) {
            for (String key : keys) {
                d.has(t, key, "" + t);
            }
            d.seeks(t, "", false, "a").seeks(t, "a", true, "ab").seeks(t, "ab", true, "b").seeks(t, "b", true, null);
        }
        d.is(0, "abort", 3).needed(79 * 7).sound(3);
    }

    // ---- on the chip ----

    /** How often the text is on the chip, in the blocks of the log or in all others. */
    private static int times(FlashVault v, String text, boolean inLog) {
        byte[] cells = (byte[]) Inside.get(v, "chip", "cells");
        byte[] words = text.getBytes(StandardCharsets.ISO_8859_1);
        int n = 0;
        for (int at = 0; at + words.length <= cells.length; at++) {
            int block = at / 2048;
            boolean log = Arrays.stream(Inside.logs(v)).anyMatch(b -> b == block);
            if (log == inLog && cells[at] == words[0] && Arrays.equals(cells, at, at + words.length, words, 0, words.length)) {
                n++;
            }
        }
        return n;
    }

    private static void logHoldsValues() {
        Due d = Due.edge(WHOLE, "a log that holds the values");
        d.commit("key of it", "the value").file("name of it", 1).tape("its bytes").is(9, "write", 1, 0);
        for (String text : new String[] {"the value", "name of it", "its bytes"}) {
            due(d, text + " is in the log", times(d.vault, text, true) >= 1);
        }
        d.is(42 + 72 + 36, "flush").is(150, "compact", true).is(3, "mount").is(150, "flush");
        for (String text : new String[] {"the value", "name of it", "its bytes"}) {
            due(d, text + " is in the log, and nowhere else", times(d.vault, text, true) >= 1 && times(d.vault, text, false) == 0);
        }
        due(d, "the key is in a table", times(d.vault, "key of it", false) >= 1);
    }

    /** Each entry: the key's length and bytes, behind one that tells whose it is; moment, place in the log, length. */
    private static void tablesTellWhere() {
        Due d = Due.edge(WHOLE, "sorted tables on levels that say where they lie");
        int needed = 0;
        for (int i = 0; i < 13; i++) {
            needed += 24 + 2 + ("value " + i).length();
            d.commit("k" + (char) ('a' + i * 5 % 13), "value " + i).is(needed, "flush");
        }
        int tables = Inside.tables(d.vault);
        due(d, "several tables", tables >= 2);
        byte[] cells = (byte[]) Inside.get(d.vault, "chip", "cells");
        int level = 0;
        int entries = 0;
        for (int i = 0; i < tables; i++) {
            Object run = ((Object[]) Inside.get(d.vault, "layout", "runs"))[i];
            due(d, "the levels rise", Inside.number(run, "level") >= level);
            level = Inside.number(run, "level");
            int at = ((int[]) Inside.get(run, "ids"))[0] * 2048;
            String before = "";
            for (int n = Inside.number(run, "entries"); n > 0; n--) {
                String key = new String(cells, at + 1, cells[at], StandardCharsets.ISO_8859_1);
                int behind = at + 1 + cells[at];
                int place = (cells[behind + 4] & 255) << 16 | (cells[behind + 5] & 255) << 8 | cells[behind + 6] & 255;
                due(d, "sorted", before.compareTo(key) < 0);
                due(d, "the key lies there", new String(cells, place + 8, cells[at], StandardCharsets.ISO_8859_1).equals(key));
                due(d, "the value lies there", new String(cells, place + 8 + cells[at], 6, StandardCharsets.ISO_8859_1).equals("value "));
                before = key;
                at = behind + 9;
                entries++;
            }
        }
        due(d, "more than one level", level > 0);
        due(d, "an entry for each key", entries == 13);
        d.sound(13);
    }

    private static void clearingAndMerging() {
        Due d = Due.edge(WHOLE, "clearing of the log, merging of the tables");
        for (int i = 0; i < 20; i++) {
            d.tape("k").tape(i, 900).is(0, "begin").is(1, "put", 0, 1).is(i + 1, "commit", 0).is(925, "flush");
        }
        int logs = Inside.logs(d.vault).length;
        due(d, "a long log", logs >= 5);
        for (int i = 0; i < 12; i++) {
            d.is(925, "collect");
            int now = Inside.logs(d.vault).length;
            due(d, "a clearing shortens the log", now < logs || now == 1);
            logs = now;
        }
        due(d, "the log is one block", logs == 1);
        d.is(925, "compact", true);
        due(d, "there is one table", Inside.tables(d.vault) == 1 && Inside.tableBlocks(d.vault) == 1);
        d.sound(1).is(20, "mount").is(0, "begin").tape("k").is(900, "get", 0).is(0x1313131313131313L, "word", 0);
    }

    // ---- the power ----

    private static final String[] FAILING = {"commit", "make", "remove", "rename", "write", "resize", "flush", "compact", "collect", "mount"};
    private static final Object[][] ARGUMENTS = {{0}, {0, true}, {0}, {0, 0, 1}, {1, 500}, {1, 513}, {}, {true}, {}, {}};
    private static final String[] TAPES = {"", "new", "g", "gh", "xyz", "", "", "", "", ""};

    /** Two keys and two files, in tables and, behind these, in the log alone; 6 moments. */
    private static Due store() {
        Due d = Due.edge(WHOLE, "a power that may fail at any byte, also while what it left behind is being mended");
        d.commit("a", "\u00ff".repeat(30)).file("f", 1).tape(255, 700).is(700, "write", 1, 0).is(55 + 63 + 700 + 2 * 27, "flush");
        return d.file("g", 2).commit("b", "Z").commit("a", "\u00ff".repeat(40));
    }

    private static void stands(Due d) {
        d.is(6, "mount").is(4, "check");
    }

    /** The power fails in the call, with so many bytes of its part, and, if mend is not negative, twice in the mending. */
    private static void fail(Due d, int act, int part, int bytes, int mend) {
        if (act == 0) {
            d.is(0, "begin").put(1, 0, "a", "").delete(2, 0, "b").put(3, 0, "c", "\u00ff\u00ff");
        }
        d.tape(TAPES[act]).is(0, "cut", false, part, bytes).is(Due.STATE, FAILING[act], ARGUMENTS[act]);
        for (int i = 0; i < 2 && mend >= 0; i++) {
            d.is(0, "cut", false, mend, bytes).is(Due.STATE, "mount");
        }
        stands(d);
    }

    private static void ends(Due d) {
        d.is(0, "begin").has(0, "a", "\u00ff".repeat(40)).has(0, "b", "Z").seeks(0, "b", true, null).is(0, "about", 2, 1);
        d.is(8, "read", 1, 692, 9).result("\u00ff".repeat(8)).is(2, "about", 0, 1).sound(4);
    }

    /** A store bears some thirty failures within its 512 calls. */
    private static void anyByte() {
        for (int act = 0; act < FAILING.length; act++) {
            for (int part = 0; part < 7; part++) {
                // a part that is an erasing has as many bytes as a block; others are short
                for (int from = 0; from < 2048; from += from < 120 ? 30 : 30 * 8) {
                    Due d = store();
                    for (int i = 0; i < 30; i++) {
                        fail(d, act, part, from < 120 ? from + i : from + i * 8 + part, -1);
                    }
                    ends(d);
                }
            }
        }
    }

    private static void anyByteOfTheMending() {
        for (int mend = 0; mend < 8; mend++) {
            for (int from = 0; from < 2048; from += from < 120 ? 24 : 24 * 8) {
                Due d = store();
                for (int i = 0; i < 24; i++) {
                    fail(d, (i + mend) % FAILING.length, i % 3, from < 120 ? from + i : from + i * 8 + mend, mend);
                }
                ends(d);
            }
        }
    }

    // ---- the calls of an object ----

    private static final int LOADED = 16384;
    private static final int LOADED_MOMENT = 30;
    private static final int LOADED_ALL = 84 + 2;

    /** Two files of 2000 and 11303 bytes and 84 keys without bytes in their values: all that the limit allows. */
    private static void load(Due d) {
        d.file("f", 1).tape(1, 2000).is(2000, "write", 1, 0).file("g", 2);
        for (int at = 0; at < 11303; at += 2000) {
            int n = Math.min(2000, 11303 - at);
            d.tape(2, n).is(at + n, "write", 2, at);
        }
        for (int k = 0; k < 21; k++) {
            d.is(0, "begin");
            for (int i = 1; i <= 4; i++) {
                d.tape(k, i).is(i, "put", 0, i);
            }
            d.is(10 + k, "commit", 0);
        }
    }

    private interface Again {
        /** Makes at most five calls; answers by how much the moment rises. */
        int on(Due d, int i);
    }

    private static int none(Due d) {
        return 0;
    }

    private static int one(Due d) {
        return 1;
    }

    private static void again(Again act) {
        Due d = Due.edge(WHOLE, "An object is used for at most 512 calls after it has been made; what later calls answer is free");
        load(d);
        d.needed(LOADED);
        int moment = LOADED_MOMENT;
        for (int i = 0; d.calls() < MOST_CALLS - 8; i++) {
            moment += act.on(d, i);
        }
        d.moment(moment);
        while (d.calls() < MOST_CALLS - 2) {
            d.is(0, "faults", d.calls() % 6);
        }
        d.is(LOADED_ALL, "check").is(moment, "mount");
        due(d, "these were all the calls", d.calls() == MOST_CALLS);
    }

    private static void allCalls() {
        again((d, i) -> none(d.is(LOADED_MOMENT, "mount")));
        again((d, i) -> none(d.is(LOADED, "collect")));
        again((d, i) -> none(d.is(LOADED, "compact", i % 2 == 0)));
        again((d, i) -> none(d.is(LOADED, i % 3 == 0 ? "flush" : "collect")));
        again((d, i) -> none(d.is(LOADED_ALL, "check").is(LOADED, "count", 3).is(84, "count", 5)));
        again((d, i) -> none(d.is(0, "cut", i % 5 == 4, i % 9, i * 7).is(Due.STATE, i % 2 == 0 ? "collect" : "mount").is(LOADED_MOMENT, "mount")));
        again((d, i) -> one(d.tape(i, 1000).is(11303, "write", 2, i * 97 % 10000)));
        again((d, i) -> one(d.is(i % 2 == 0 ? 11303 : 0, "resize", 2, i % 2 == 0 ? 0 : 11303)));
        again((d, i) -> one(d.tape(i % 2 == 0 ? "fh" : "hf").is(1, "rename", 0, 0, 1)));
        again((d, i) -> one(d.is(0, "begin").tape(i % 21, 3).is(1, "put", 0, 3).is(LOADED_MOMENT + i + 1, "commit", 0)));
    }

    public static void main(String[] args) {
        filesBesideTheKeys();
        oneMoment();
        logHoldsValues();
        tablesTellWhere();
        clearingAndMerging();
        anyByte();
        anyByteOfTheMending();
        allCalls();
        Due.finish();
    }
}
