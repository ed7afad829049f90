/** The boundary cases of promises 1 to 11, 17 and 18, sentence by sentence. */
public final class EdgeKeysTest {
    private static final int LEAST = Integer.MIN_VALUE;
    private static final int MOST = Integer.MAX_VALUE;
    private static final String KEY_40 = "k".repeat(40);

    // ---- 1: a new object ----

    private static void newObject() {
        int[] sizes = {0, 1, 2, 3, -1, MOST, LEAST};
        for (int size : sizes) {
            Due d = Due.edge("Promise 1", "size 0: 64 BLOCKS, 1: 96, else 128", size);
            d.is(256 * (size == 0 ? 64 : size == 1 ? 96 : 128), "count", 4).is(0, "flush").is(0, "mount");
            Due e = Due.edge("Promise 1", "No KEY has a VALUE, there is no FILE", size);
            e.is(0, "count", 5).is(0, "count", 6).needed(0).is(0, "begin").seeks(0, "", false, null).seeks(0, "", true, null);
            e.has(0, "\0", null).is(Due.NONE, "list", 0, 0).is(Due.NONE, "about", 1, 0).is(Due.NONE, "about", 200, 0);
            e.is(Due.NONE, "read", 1, 0, 1).sound(0).moment(0).is(1, "count", 1).is(0, "count", 9);
        }
    }

    // ---- 2 to 4: feed, fill, end ----

    private static void feed() {
        Due d = Due.edge("Promise 2", "The 20 bytes of five ints, the highest of each first, come to the TAPE");
        d.is(20, "feed", 0x00010203, 0x7f808182, 0xfffefdfc, LEAST, MOST);
        d.tapeIs("\0\1\2\3\u007f\u0080\u0081\u0082\u00ff\u00fe\u00fd\u00fc\u0080\0\0\0\u007f\u00ff\u00ff\u00ff");
        d.is(20, "feed", -1, 0, -1, 0, -1).tapeIs("\u00ff\u00ff\u00ff\u00ff\0\0\0\0\u00ff\u00ff\u00ff\u00ff\0\0\0\0\u00ff\u00ff\u00ff\u00ff");
        Due e = Due.edge("Promise 2", "it would have more than 2000: IndexOutOfBoundsException");
        e.tape(1, 1980).is(2000, "feed", 2, 2, 2, 2, 2).is(Due.INDEX, "feed", 3, 3, 3, 3, 3).is(2000, "count", 7);
        e.is(1981, "end", 1981).is(Due.INDEX, "feed", 3, 3, 3, 3, 3).is(1981, "count", 7).is(1980, "end", 1980).is(2000, "feed", 3, 3, 3, 3, 3);
        e.is(0, "end", 0).is(20, "feed", 1, 1, 1, 1, 1);
        Due g = Due.edge("Promise 2", "Answers its length");
        for (int i = 1; i <= 100; i++) {
            g.is(20 * i, "feed", i, i, i, i, i);
        }
        g.is(Due.INDEX, "feed", 0, 0, 0, 0, 0).is(3, "end", 3).is(23, "feed", 0, 0, 0, 0, 0);
    }

    private static void fill() {
        Due d = Due.edge("Promise 3", "n bytes v (1 .. 1000");
        d.is(1, "fill", 7, 1).is(1001, "fill", 7, 1000).is(Due.ARGUMENT, "fill", 7, 0).is(Due.ARGUMENT, "fill", 7, 1001).is(Due.ARGUMENT, "fill", 7, -1);
        d.is(Due.ARGUMENT, "fill", 7, LEAST).is(Due.ARGUMENT, "fill", 7, MOST).tapeIs("\7".repeat(1001));
        Due e = Due.edge("Promise 3", "0 .. 255) come to the TAPE");
        e.is(1, "fill", 0, 1).is(2, "fill", 255, 1).is(4, "fill", 128, 2).is(Due.ARGUMENT, "fill", 256, 1).is(Due.ARGUMENT, "fill", -1, 1);
        e.is(Due.ARGUMENT, "fill", LEAST, 1).is(Due.ARGUMENT, "fill", MOST, 1).tapeIs("\0\u00ff\u0080\u0080");
        Due g = Due.edge("Promise 3", "likewise");
        g.is(1000, "fill", 1, 1000).is(2000, "fill", 1, 1000).is(Due.INDEX, "fill", 1, 1).is(Due.INDEX, "fill", 1, 1000).is(2000, "count", 7);
        g.is(1001, "end", 1001).is(Due.INDEX, "fill", 2, 1000).is(1001, "count", 7).is(2000, "fill", 2, 999).is(1999, "end", 1999).is(2000, "fill", 2, 1);
    }

    private static void end() {
        Due d = Due.edge("Promise 4", "The TAPE keeps its first n bytes, n 0 .. its length");
        d.is(0, "end", 0).is(Due.ARGUMENT, "end", 1).is(Due.ARGUMENT, "end", -1).tape("abcd").is(Due.ARGUMENT, "end", 5).is(Due.ARGUMENT, "end", -1);
        d.is(Due.ARGUMENT, "end", LEAST).is(Due.ARGUMENT, "end", MOST).is(4, "end", 4).is(3, "end", 3).is(Due.ARGUMENT, "end", 4).tapeIs("abc");
        d.tape("abcd").is(1, "end", 1).tape("x").tapeIs("ax").tape("abcd").is(0, "end", 0).is(0, "count", 7).is(Due.ARGUMENT, "end", 1);
        Due e = Due.edge("Promise 4", "Answers n");
        e.tape(1, 2000).is(2000, "end", 2000).is(1999, "end", 1999).is(1, "end", 1).is(0, "end", 0).is(0, "end", 0);
    }

    // ---- 5: begin ----

    private static void begin() {
        Due d = Due.edge("Promise 5", "All are OPEN: IndexOutOfBoundsException");
        for (int t = 0; t < 8; t++) {
            d.is(t, "begin");
        }
        d.is(Due.INDEX, "begin").is(8, "count", 2).is(0, "abort", 7).is(7, "begin").is(Due.INDEX, "begin").is(0, "mount").is(0, "begin");
        Due e = Due.edge("Promise 5", "The least TRANSACTION that is not is OPEN, without WRITES");
        for (int t = 0; t < 8; t++) {
            e.is(t, "begin").put(1, t, "k", "" + t);
        }
        e.is(1, "abort", 6).is(1, "abort", 3).is(3, "begin").has(3, "k", null).put(1, 3, "q", "").is(1, "commit", 4).has(3, "k", null);
        // the ones that are closed by a commit, with and without writes, or by its refusal, are free again
        e.is(4, "begin").has(4, "k", "4").is(1, "commit", 4).is(4, "begin").is(Due.UNSUPPORTED, "commit", 0).is(0, "begin").has(0, "k", "4");
        e.is(6, "begin").has(6, "q", null).is(0, "abort", 6).is(1, "abort", 3);
        Due g = Due.edge("Promise 5", "Answers it");
        g.is(0, "begin").is(1, "begin").is(0, "abort", 0).is(0, "begin").is(2, "begin").is(3, "count", 2);
    }

    // ---- 6: put ----

    private static void putForms() {
        Due t = Due.edge("Promise 6", "t 0 .. 7 (so for all)");
        for (int i = 0; i < 8; i++) {
            t.is(i, "begin");
        }
        t.put(1, 0, "a", "").put(1, 7, "a", "").tape("a").is(Due.ARGUMENT, "put", 8, 1).is(Due.ARGUMENT, "put", -1, 1).is(Due.ARGUMENT, "delete", 8);
        t.is(Due.ARGUMENT, "get", 8).is(Due.ARGUMENT, "seek", 8, false).is(Due.ARGUMENT, "commit", 8).is(Due.ARGUMENT, "abort", 8);
        t.is(Due.ARGUMENT, "delete", -1).is(Due.ARGUMENT, "get", -1).is(Due.ARGUMENT, "seek", -1, true).is(Due.ARGUMENT, "commit", -1);
        t.is(Due.ARGUMENT, "abort", -1).is(0, "get", 7).tape("a").is(1, "seek", 7, false).is(1, "commit", 7).is(1, "abort", 0);
        Due d = Due.edge("Promise 6", "its first k bytes (k 1 .. 40, no more than there are)");
        d.is(0, "begin").is(Due.ARGUMENT, "put", 0, 0).is(Due.ARGUMENT, "put", 0, 1).tape("abc").is(Due.ARGUMENT, "put", 0, 0).is(Due.ARGUMENT, "put", 0, 4);
        d.is(Due.ARGUMENT, "put", 0, -1).is(Due.ARGUMENT, "put", 0, LEAST).is(Due.ARGUMENT, "put", 0, MOST).is(1, "put", 0, 3).has(0, "abc", "");
        d.tape("abc").is(2, "put", 0, 1).has(0, "a", "bc").tape(KEY_40).is(Due.ARGUMENT, "put", 0, 41).is(3, "put", 0, 40).has(0, KEY_40, "");
        d.tape(KEY_40 + "xy").is(Due.ARGUMENT, "put", 0, 41).is(Due.ARGUMENT, "put", 0, 42).is(3, "put", 0, 40).has(0, KEY_40, "xy");
        Due v = Due.edge("Promise 6", "and a VALUE, 0 .. 1000");
        v.is(0, "begin").tape(1, 1001).is(1, "put", 0, 1).tape(1, 1002).is(Due.ARGUMENT, "put", 0, 1).is(1002, "count", 7).is(2, "put", 0, 2);
        v.tape(1, 1041).is(Due.ARGUMENT, "put", 0, 40).is(1040, "end", 1040).is(3, "put", 0, 40).tape(1, 2000).is(Due.ARGUMENT, "put", 0, 40).is(0, "end", 0);
        v.tape("\1").is(1000, "get", 0).tape("\1").is(3, "put", 0, 1).has(0, "\1", "").tape("\1\1").is(1000, "get", 0);
        Due n = Due.edge("Promise 6", "t is not OPEN: NoSuchElementException");
        n.is(0, "begin").tape("ab").is(Due.NONE, "put", 1, 1).tape("ab").is(Due.NONE, "put", 7, 1).put(1, 0, "a", "b").is(1, "commit", 0);
        n.tape("ab").is(Due.NONE, "put", 0, 1).is(0, "count", 2);
    }

    private static void putMost() {
        Due d = Due.edge("Promise 6", "more than 32 KEYS or 4000 bytes of WRITES: UnsupportedOperationException");
        d.is(0, "begin");
        for (int i = 0; i < 31; i++) {
            d.put(i + 1, 0, "" + (char) i, "");
        }
        d.tape(100, 1001).is(32, "put", 0, 1).tape("x").is(Due.UNSUPPORTED, "put", 0, 1).tape("xv").is(Due.UNSUPPORTED, "put", 0, 1).is(32, "abort", 0);
        d.is(0, "begin").tape(1, 1001).is(1, "put", 0, 1).tape(2, 1001).is(2, "put", 0, 1).tape(3, 1001).is(3, "put", 0, 1);
        d.tape(4, 998).is(Due.UNSUPPORTED, "put", 0, 1).tape(4, 998).is(Due.UNSUPPORTED, "put", 0, 40).has(0, "\4", null).tape(4, 997).is(4, "put", 0, 1);
        d.tape("x").is(Due.UNSUPPORTED, "put", 0, 1).is(1, "commit", 0).needed(4000 + 4 * 24).is(4, "count", 5);
    }

    private static void putInPlace() {
        Due d = Due.edge("Promise 6", "in place of one there, which does not count for the 32 and 4000");
        d.is(0, "begin");
        for (int i = 0; i < 32; i++) {
            d.put(i + 1, 0, "" + (char) i, "v");
        }
        d.put(32, 0, "\0", "other").has(0, "\0", "other").delete(32, 0, "\37").has(0, "\37", null).put(32, 0, "\37", "").has(0, "\37", "");
        d.delete(32, 0, "\37").delete(32, 0, "\37").is(32, "abort", 0).is(0, "begin");
        for (int i = 0; i < 4; i++) {
            d.tape(i, 1000).is(i + 1, "put", 0, 1);
        }
        d.tape(2, 1000).is(4, "put", 0, 1).tape(2, 999).is(4, "put", 0, 1).tape(2, 1000).is(4, "put", 0, 1).delete(4, 0, "\2").put(5, 0, "x", "y".repeat(998));
        d.tape("\2z").is(Due.UNSUPPORTED, "put", 0, 1).has(0, "\2", null).put(5, 0, "x", "y".repeat(997)).put(5, 0, "\2", "z").is(1, "commit", 0).needed(4000 + 5 * 24);
        // the first, one between and the last, of different lengths: the others stay what they were
        Due o = Due.edge("Promise 6", "in place of one there, which does not count for the 32 and 4000");
        o.is(0, "begin").put(1, 0, "a", "1".repeat(900)).put(2, 0, "bb", "22").put(3, 0, "ccc", "3".repeat(1000)).put(4, 0, "d", "4".repeat(999)).put(5, 0, "e", "5".repeat(1000));
        o.put(6, 0, "f", "6".repeat(90)).tape("x").is(Due.UNSUPPORTED, "delete", 0).put(6, 0, "a", "one".repeat(300)).has(0, "bb", "22").has(0, "f", "6".repeat(90));
        o.tape("a").is(900, "get", 0).put(6, 0, "bb", "tw").has(0, "bb", "tw").tape("d").is(999, "get", 0).is(0x3434343434343434L, "word", 991).put(6, 0, "f", "").has(0, "f", "");
        o.tape("a" + "1".repeat(991)).is(Due.UNSUPPORTED, "put", 0, 1).put(6, 0, "a", "1".repeat(990)).delete(6, 0, "a").put(6, 0, "ccc", "").has(0, "ccc", "").has(0, "bb", "tw");
        o.tape("e").is(1000, "get", 0).is(0x3535353535353535L, "word", 992).is(1, "commit", 0).is(0, "begin").has(0, "bb", "tw").has(0, "a", null).has(0, "ccc", "").sound(5);
        Due e = Due.edge("Promise 6", "it stays if that is thrown");
        e.is(0, "begin");
        for (int i = 0; i < 4; i++) {
            e.tape(i, 1000).is(i + 1, "put", 0, 1);
        }
        e.tape(1, 1001).is(Due.UNSUPPORTED, "put", 0, 1).tape("\1").is(999, "get", 0).is(0x0101010101010101L, "word", 0).is(4, "abort", 0);
        Due g = Due.edge("Promise 6", "Answers how many KEYS these have");
        g.is(0, "begin").is(1, "begin").put(1, 0, "a", "").put(1, 0, "a", "1").put(2, 0, "b", "").put(1, 1, "c", "").delete(2, 0, "a").delete(3, 0, "d").put(3, 0, "d", "");
    }

    // ---- 7: delete ----

    private static void delete() {
        Due d = Due.edge("Promise 7", "The TAPE: a KEY");
        d.is(0, "begin").is(Due.ARGUMENT, "delete", 0).delete(1, 0, "a").delete(2, 0, KEY_40).tape(KEY_40 + "k").is(Due.ARGUMENT, "delete", 0).is(41, "count", 7);
        d.is(40, "end", 40).is(2, "delete", 0).tape(1, 2000).is(Due.ARGUMENT, "delete", 0);
        Due e = Due.edge("Promise 7", "As put (also what is answered), the KEY is taken out, also one that has no VALUE");
        e.commit("a", "1").commit("b", "").is(0, "begin").delete(1, 0, "a").has(0, "a", null).delete(2, 0, "b").has(0, "b", null).delete(3, 0, "none").delete(3, 0, "a");
        e.tape("a").is(Due.NONE, "delete", 1).put(3, 0, "a", "back").has(0, "a", "back").delete(3, 0, "a").is(1, "begin").is(3, "commit", 0).is(0, "count", 5);
        e.has(1, "a", "1").has(1, "b", "").needed(26 + 25 + 25 + 25 + 28).is(0, "abort", 1).needed(0).sound(0).is(3, "mount").sound(0);
        // of 33 keys and of 4001 bytes, also where there is no value
        Due g = Due.edge("Promise 7", "As put");
        g.is(0, "begin").is(1, "begin");
        for (int i = 0; i < 32; i++) {
            g.delete(i + 1, 0, "" + (char) i);
        }
        g.tape("x").is(Due.UNSUPPORTED, "delete", 0).delete(32, 0, "\0").is(32, "abort", 0).tape(1, 1040).is(1, "put", 1, 40).tape(2, 1040).is(2, "put", 1, 40);
        g.tape(3, 1040).is(3, "put", 1, 40).tape(4, 841).is(4, "put", 1, 1).tape(KEY_40).is(Due.UNSUPPORTED, "delete", 1).tape(4, 840).is(4, "put", 1, 1);
        g.delete(5, 1, KEY_40).tape("y").is(Due.UNSUPPORTED, "delete", 1).delete(5, 1, KEY_40).is(1, "commit", 1).is(4, "count", 5);
    }

    // ---- 8 and 9: get, seek ----

    private static void get() {
        Due d = Due.edge("Promise 8", "The TAPE: a KEY");
        d.is(0, "begin").is(Due.ARGUMENT, "get", 0).tape(KEY_40 + "k").is(Due.ARGUMENT, "get", 0).is(40, "end", 40).is(-1, "get", 0).tape("k").is(-1, "get", 0);
        Due n = Due.edge("Promise 8", "t is not OPEN: NoSuchElementException");
        n.commit("k", "v").is(0, "begin").has(0, "k", "v").tape("k").is(Due.NONE, "get", 1).is(1, "count", 8).is(0, "abort", 0).tape("k").is(Due.NONE, "get", 0).result("v");
        Due e = Due.edge("Promise 8", "The VALUE that it has to t is the RESULT");
        e.commit("a", "x").commit("b", "y".repeat(1000)).is(0, "begin").has(0, "a", "x").has(0, "b", "y".repeat(1000)).has(0, "a", "x").put(1, 0, "a", "zz").has(0, "a", "zz");
        Due g = Due.edge("Promise 8", "answers how many bytes");
        g.commit("e", "").commit("l", "v".repeat(1000)).is(0, "begin").tape("e").is(0, "get", 0).result("").tape("l").is(1000, "get", 0).tape("e").is(0, "get", 0).result("");
        Due m = Due.edge("Promise 8", "-1 if it has none (the RESULT is empty)");
        m.commit("ab", "v").commit("gone", "v").commitOut("gone").is(0, "begin").has(0, "ab", "v").tape("a").is(-1, "get", 0).result("").has(0, "ab", "v");
        m.tape("abc").is(-1, "get", 0).result("").has(0, "ab", "v").tape("gone").is(-1, "get", 0).result("").has(0, "ab", "v").delete(1, 0, "ab").result("v");
        m.tape("ab").is(-1, "get", 0).result("").is(Due.INDEX, "word", 0);
    }

    private static void seek() {
        Due d = Due.edge("Promise 9", "The TAPE: 0 .. 40 bytes");
        d.commit(KEY_40, "").is(0, "begin").seeks(0, "", false, KEY_40).seeks(0, "", true, KEY_40).seeks(0, KEY_40, false, KEY_40).seeks(0, KEY_40, true, null);
        d.tape(KEY_40 + "k").is(Due.ARGUMENT, "seek", 0, false).is(Due.ARGUMENT, "seek", 0, true).is(41, "count", 7).is(39, "end", 39).is(40, "seek", 0, true);
        Due n = Due.edge("Promise 9", "t is not OPEN: NoSuchElementException");
        n.commit("k", "v").is(0, "begin").seeks(0, "", false, "k").tape("x").is(Due.NONE, "seek", 1, false).is(Due.NONE, "seek", 7, true).is(0, "count", 7).result("k");
        Due e = Due.edge("Promise 9", "The first KEY, in order, that is not before the TAPE (beyond: and not the same) and has a VALUE to t is the RESULT");
        e.commit("b", "1").commit("bb", "2").commit("c", "3").commitOut("c").commit("d", "").is(0, "begin").commit("ba", "later").commitOut("b");
        e.seeks(0, "", false, "b").seeks(0, "a", true, "b").seeks(0, "b", false, "b").seeks(0, "b", true, "bb").seeks(0, "ba", false, "bb").seeks(0, "bb", false, "bb");
        e.seeks(0, "bb", true, "d").seeks(0, "c", false, "d").seeks(0, "d", false, "d").seeks(0, "d", true, null).seeks(0, "\u00ff", false, null);
        e.is(1, "begin").seeks(1, "", false, "ba").seeks(1, "b", false, "ba").seeks(1, "ba", true, "bb");
        // its own writes: one before, one between, one taken out, one that is there too
        e.put(1, 1, "a", "").put(2, 1, "bab", "").delete(3, 1, "bb").put(4, 1, "d", "own").seeks(1, "", false, "a").seeks(1, "a", true, "ba").seeks(1, "ba", true, "bab");
        e.seeks(1, "bab", true, "d").seeks(1, "d", true, null).delete(4, 1, "d").seeks(1, "bab", true, null).put(4, 1, "d", "").put(5, 1, "zz", "").seeks(1, "d", true, "zz");
        e.delete(6, 1, "ba").delete(7, 1, "b").seeks(1, "a", true, "bab").seeks(0, "a", true, "b");
        // the first of its writes takes out what is there; writes that come in another order than their keys
        Due o = Due.edge("Promise 9", "The first KEY, in order, that is not before the TAPE (beyond: and not the same) and has a VALUE to t is the RESULT");
        o.commit("m", "").commit("n", "").is(0, "begin").delete(1, 0, "m").seeks(0, "", false, "n").put(2, 0, "c", "").put(3, 0, "b", "").put(4, 0, "bb", "").put(5, 0, "ba", "");
        o.seeks(0, "", false, "b").seeks(0, "b", true, "ba").seeks(0, "ba", true, "bb").seeks(0, "bb", true, "c").seeks(0, "c", true, "n").put(5, 0, "m", "").seeks(0, "c", true, "m");
        o.put(6, 0, "a", "").put(7, 0, "aa", "").seeks(0, "", true, "a").seeks(0, "a", true, "aa").delete(7, 0, "a").seeks(0, "", true, "aa");
        Due g = Due.edge("Promise 9", "answers how many bytes");
        g.commit("a", "value").commit(KEY_40, "").is(0, "begin").is(1, "seek", 0, false).tape("b").is(40, "seek", 0, false).is(40, "count", 8);
        Due m = Due.edge("Promise 9", "-1 if there is none (the RESULT is empty)");
        m.is(0, "begin").is(-1, "seek", 0, false).result("").put(1, 0, "a", "").seeks(0, "", false, "a").tape("a").is(-1, "seek", 0, true).result("");
        m.seeks(0, "", false, "a").tape("b").is(-1, "seek", 0, false).result("").file("zzz", 1).tape("a").is(-1, "seek", 0, true).result("");
    }

    // ---- 10 and 11: commit, abort ----

    private static void commitsWithoutWrites() {
        Due n = Due.edge("Promise 10", "t is not OPEN: NoSuchElementException");
        n.is(Due.NONE, "commit", 0).is(Due.NONE, "commit", 7).is(0, "begin").is(Due.NONE, "commit", 1).is(0, "commit", 0).is(Due.NONE, "commit", 0);
        Due d = Due.edge("Promise 10", "Without WRITES it is not OPEN any more");
        d.commit("k", "v").is(0, "begin").is(1, "begin").commit("k", "w").is(2, "commit", 0).is(1, "count", 2).moment(2).tape("k").is(Due.NONE, "get", 0).has(1, "k", "v");
        d.is(2, "commit", 1).is(0, "count", 2).moment(2).is(0, "cut", false, 0, 0).is(0, "begin").is(2, "commit", 0).is(1, "count", 9);
        Due e = Due.edge("Promise 10", "Answers the PRESENT MOMENT");
        e.is(0, "begin").is(0, "commit", 0).file("f", 1).is(0, "begin").is(1, "commit", 0).is(0, "begin").put(1, 0, "a", "").is(2, "commit", 0).is(0, "begin");
        e.directory("d", 2).put(1, 0, "a", "").is(4, "commit", 0).moment(4);
    }

    private static void keysThatWereChanged() {
        Due d = Due.edge("Promise 10", "A KEY of its WRITES was given a VALUE (also the same) or taken out (also if it had none) by a commit behind the MOMENT that it SEES: UnsupportedOperationException, and it is not OPEN any more");
        d.commit("a", "1").is(0, "begin").is(1, "begin").is(2, "begin").is(3, "begin").commit("a", "1").commitOut("none").commitOut("a");
        d.put(1, 0, "a", "1").is(Due.UNSUPPORTED, "commit", 0).is(3, "count", 2).tape("a").is(Due.NONE, "get", 0).delete(1, 1, "a").is(Due.UNSUPPORTED, "commit", 1);
        d.put(1, 2, "x", "").put(2, 2, "none", "").is(Due.UNSUPPORTED, "commit", 2).delete(1, 3, "none").is(Due.UNSUPPORTED, "commit", 3).is(0, "count", 2).moment(4).is(0, "count", 5);
        // one that was changed at the moment itself is not behind it; nor do keys matter that are only beginnings of it, or files
        d.commit("b", "1").is(0, "begin").commit("bb", "").commitOut("B").file("b", 1).put(1, 0, "b", "2").is(9, "commit", 0).is(0, "begin").put(1, 0, "b", "3").is(10, "commit", 0);
        // what it read does not matter, what it wrote and then wrote again does
        d.is(0, "begin").has(0, "b", "3").commit("b", "4").put(1, 0, "c", "").is(12, "commit", 0).is(0, "begin").put(1, 0, "c", "x").commit("c", "y").delete(1, 0, "c");
        d.is(Due.UNSUPPORTED, "commit", 0).moment(13).is(0, "begin").has(0, "c", "y").is(0, "abort", 0).sound(4);
        // changed and then flushed, merged and cleared away
        int needed = 3 * 26 + 63;
        d.is(0, "begin").commit("gone", "v").commitOut("gone").is(needed + 28, "flush").is(needed + 28, "compact", true).is(needed + 28, "collect");
        d.put(1, 0, "gone", "").is(Due.UNSUPPORTED, "commit", 0).needed(needed);
    }

    private static void aboveTheLimit() {
        Due d = Due.edge("Promise 10", "NEEDED, as it would be behind the commit with t not OPEN, would be above LIMIT: IndexOutOfBoundsException (t stays OPEN with its WRITES)");
        for (int i = 0; i < 15; i++) {
            d.is(0, "begin").tape(i, 1040).is(1, "put", 0, 40).is(i + 1, "commit", 0);
        }
        // 424 are left
        d.needed(15960).is(0, "begin").put(1, 0, "z", "v".repeat(400)).is(Due.INDEX, "commit", 0).is(1, "count", 2).moment(15).tape("z").is(400, "get", 0);
        d.put(1, 0, "z", "v".repeat(399)).is(16, "commit", 0).needed(16384).is(0, "count", 2);
        // a value in place of one as long is as heavy; but not while another sees the old one
        d.is(0, "begin").tape(3, 1040).is(1, "put", 0, 40).is(1, "begin").is(Due.INDEX, "commit", 0).is(0, "abort", 1).is(17, "commit", 0).needed(16384);
        d.is(0, "begin").is(1, "begin").tape(3, 40).is(1, "delete", 0).is(Due.INDEX, "commit", 0).is(0, "abort", 1).is(18, "commit", 0).needed(16384 - 1064);
        // 1064 are left: what is taken out counts 24 and the key while one sees a moment before, exactly as much as there is
        d.is(0, "begin").tape(3, 1000).is(1, "put", 0, 40).is(19, "commit", 0).needed(16384 - 40).is(0, "begin").is(1, "begin").tape("\5".repeat(17)).is(1, "delete", 0);
        d.is(Due.INDEX, "commit", 0).is(1, "abort", 0).is(0, "begin").tape("\5".repeat(16)).is(1, "delete", 0).is(20, "commit", 0).needed(16384);
        d.is(0, "abort", 1).needed(16344).sound(16).is(20, "mount").needed(16344).sound(16);
    }

    /** What only t sees is not needed behind its commit; a key that was not there is taken out for nothing. */
    private static void aboveTheLimitWithItselfNotOpen() {
        Due d = Due.edge("Promise 10", "NEEDED, as it would be behind the commit with t not OPEN");
        for (int i = 0; i < 13; i++) {
            d.is(0, "begin").tape(i, 1040).is(1, "put", 0, 40).is(i + 1, "commit", 0);
        }
        // 2552 are left; what 0 alone sees takes 1064 of them
        d.needed(13832).is(0, "begin").is(1, "begin").tape("\3".repeat(40)).tape(33, 1000).is(1, "put", 1, 40).is(14, "commit", 1).needed(13832 + 1064);
        d.is(1, "begin").put(1, 1, "x", "v".repeat(1000)).put(2, 1, "y", "v".repeat(439)).is(Due.INDEX, "commit", 1);
        d.is(2, "abort", 1).put(1, 0, "x", "v".repeat(1000)).put(2, 0, "y", "v".repeat(1000)).put(3, 0, "z", "v".repeat(478)).is(Due.INDEX, "commit", 0);
        d.put(3, 0, "z", "v".repeat(477)).is(15, "commit", 0).needed(16384).is(0, "begin").delete(1, 0, "none").is(16, "commit", 0).needed(16384);
        // nor does it matter that another sees the present moment, if nothing was before
        d.is(0, "begin").is(1, "begin").delete(1, 0, "none").is(Due.INDEX, "commit", 0).is(0, "abort", 1).is(17, "commit", 0).needed(16384).sound(16);
    }

    private static void doneCommits() {
        Due d = Due.edge("Promise 10", "Else the KEYS have what its WRITES say, from the next MOMENT on, which is the PRESENT one, and t is not OPEN any more");
        d.commit("a", "1").is(0, "begin").is(1, "begin");
        for (int i = 0; i < 31; i++) {
            d.put(i + 1, 1, "k" + (char) i, "" + i);
        }
        d.delete(32, 1, "a").is(2, "commit", 1).moment(2).is(1, "count", 2).is(Due.NONE, "abort", 1).is(31, "count", 5).has(0, "a", "1").seeks(0, "a", true, null);
        d.is(1, "begin").has(1, "a", null).has(1, "k\0", "0").has(1, "k\36", "30").seeks(1, "", false, "k\0").seeks(1, "k\36", true, null).is(2, "mount").is(0, "begin");
        d.has(0, "a", null).has(0, "k\0", "0").has(0, "k\36", "30").sound(31);
    }

    private static void abort() {
        Due n = Due.edge("Promise 11", "t is not OPEN: NoSuchElementException");
        n.is(Due.NONE, "abort", 0).is(Due.NONE, "abort", 7).is(0, "begin").is(Due.NONE, "abort", 1).is(0, "abort", 0).is(Due.NONE, "abort", 0);
        Due d = Due.edge("Promise 11", "It is not any more");
        d.commit("a", "1").is(0, "begin").put(1, 0, "a", "2").put(2, 0, "b", "").is(2, "abort", 0).is(0, "count", 2).moment(1).needed(26).is(0, "begin").has(0, "a", "1");
        d.has(0, "b", null).is(0, "cut", false, 0, 0).put(1, 0, "a", "2").is(1, "abort", 0).is(1, "count", 9).is(1, "count", 1);
        Due e = Due.edge("Promise 11", "Answers how many KEYS its WRITES had");
        e.is(0, "begin").is(0, "abort", 0).is(0, "begin").put(1, 0, "a", "").put(1, 0, "a", "1").is(1, "abort", 0).is(0, "begin");
        for (int i = 0; i < 32; i++) {
            e.delete(i + 1, 0, "k" + (char) i);
        }
        e.is(32, "abort", 0).is(0, "begin").is(0, "abort", 0);
    }

    // ---- 17 and 18: word, count ----

    private static void word() {
        Due d = Due.edge("Promise 17", "8 bytes of the RESULT from i on, the highest first, zeros behind its end");
        d.is(0, "begin").put(1, 0, "k", "\1\2\3\4\5\6\7\u0088\u0099").tape("k").is(9, "get", 0).is(0x0102030405060788L, "word", 0).is(0x0203040506078899L, "word", 1);
        d.is(0x0304050607889900L, "word", 2).is(0x8899000000000000L, "word", 7).is(0x9900000000000000L, "word", 8);
        // what was in a longer result before is not seen
        d.put(1, 0, "k", "\1").tape("k").is(1, "get", 0).is(1L << 56, "word", 0).put(1, 0, "k", "\u00ff".repeat(1000)).tape("k").is(1000, "get", 0);
        d.is(-1L, "word", 992).is(-256L, "word", 993).is(-1L << 56, "word", 999).is(-1L, "word", 0);
        Due e = Due.edge("Promise 17", "i is none of its bytes: IndexOutOfBoundsException");
        e.is(Due.INDEX, "word", 0).is(Due.INDEX, "word", -1).commit("k", "ab").is(0, "begin").tape("k").is(2, "get", 0).is(Due.INDEX, "word", 2).is(Due.INDEX, "word", -1);
        e.is(Due.INDEX, "word", MOST).is(Due.INDEX, "word", LEAST).is(Due.INDEX, "word", MOST - 7).result("ab").tape("none").is(-1, "get", 0).is(Due.INDEX, "word", 0);
        e.tape("k").is(2, "get", 0).is(0x6200000000000000L, "word", 1).is(1, "mount").is(Due.INDEX, "word", 0);
    }

    private static void count() {
        Due d = Due.edge("Promise 18", "what 0 .. 9", 1);
        d.is(Due.ARGUMENT, "count", -1).is(Due.ARGUMENT, "count", 10).is(Due.ARGUMENT, "count", LEAST).is(Due.ARGUMENT, "count", MOST);
        counts(d, 0, 1, 0, 0, 24576, 0, 0, 0, 0, 0);
        Due e = Due.edge("Promise 18", "0 the PRESENT MOMENT, 1: 1 if it is UP, else 0, 2 TRANSACTIONS that are OPEN, 3 NEEDED, 4 LIMIT", 2);
        e.commit("a", "1").commit("b", "").commitOut("a").is(0, "begin").is(1, "begin").directory("d", 1).tape("f").is(2, "make", 1, false).has(0, "b", "").tape("b");
        counts(e, 5, 1, 2, 25 + 126, 32768, 1, 2, 1, 0, 0);
        Due g = Due.edge("Promise 18", "5 KEYS that have a VALUE at present, 6 FILES and DIRECTORIES but the ROOT, 7, 8 bytes of the TAPE, the RESULT, 9: 1 if a CUT waits, else 0");
        g.commit("a", "123").is(0, "begin").commitOut("a").is(0, "count", 5).has(0, "a", "123").is(3, "count", 8).put(1, 0, "q", "").is(0, "count", 5).tape(1, 2000);
        g.is(0, "cut", true, 0, 0);
        counts(g, 2, 1, 1, 28 + 25, 16384, 0, 0, 2000, 3, 1);
        Due h = Due.edge("Promise 18", "0, 3, 5, 6 when it is DOWN: IllegalStateException");
        h.commit("a", "123").file("f", 1).is(0, "begin").tape("a").is(3, "get", 0).tape("x").down();
        counts(h, Due.STATE, 0, 0, Due.STATE, 16384, Due.STATE, Due.STATE, 0, 0, 0);
        h.is(0, "cut", false, 0, 0);
        counts(h, Due.STATE, 0, 0, Due.STATE, 16384, Due.STATE, Due.STATE, 0, 0, 1);
        h.is(Due.ARGUMENT, "count", 10).is(Due.ARGUMENT, "count", -1).is(Due.STATE, "mount").is(2, "mount");
        counts(h, 2, 1, 0, 28 + 63, 16384, 1, 1, 0, 0, 0);
    }

    private static void counts(Due d, Object... due) {
        for (int what = 0; what < due.length; what++) {
            d.is(due[what], "count", what);
        }
    }

    public static void main(String[] args) {
        newObject();
        feed();
        fill();
        end();
        begin();
        putForms();
        putMost();
        putInPlace();
        delete();
        get();
        seek();
        commitsWithoutWrites();
        keysThatWereChanged();
        aboveTheLimit();
        aboveTheLimitWithItselfNotOpen();
        doneCommits();
        abort();
        word();
        count();
        Due.finish();
    }
}
