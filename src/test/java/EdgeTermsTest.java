/** The boundary cases of 'Terms', sentence by sentence: the chip, tape and result, keys, moments, transactions, files. */
public final class EdgeTermsTest {
    private static final String TERMS = "Terms";
    private static final String KEY_40 = "k".repeat(40);
    private static final String VALUE_1000 = "v".repeat(1000);

    // ---- the chip ----

    /** The log goes around the chip more than twice, and so does a change of keys in the next test. */
    private static void chipGoesAround() {
        Due d = Due.edge(TERMS, "A BLOCK is erased as a whole (all its bytes are 255 then), and a byte that is erased can be written once");
        isErased(d);
        d.file("f", 1);
        for (int i = 0; i < 150; i++) {
            d.tape(i, 2000).is(2000, "write", 1, 0);
        }
        isErased(d);
        d.sound(1).is(151, "mount").sound(1).is(8, "read", 1, 1992, 1000).result("\u0095".repeat(8));
        Due e = Due.edge(TERMS, "THE CHIP has BLOCKS of 2048 bytes");
        for (int i = 0; i < 40; i++) {
            // two blocks for each commit, so more than the 64 in all
            e.is(0, "begin");
            for (int k = 0; k < 4; k++) {
                e.tape(k, 1000).is(k + 1, "put", 0, 1);
            }
            e.is(i + 1, "commit", 0);
        }
        e.sound(4).is(40, "mount").sound(4).needed(4 * 1024);
    }

    /** Behind what was written of each block. */
    private static void isErased(Due d) {
        int n = Inside.notErased(d.vault);
        if (n != 0) {
            Due.tell(d.title + ": " + n + " bytes are not 255");
        }
    }

    private static void limit() {
        int[] limits = {16384, 24576, 32768};
        for (int size = 0; size < 3; size++) {
            Due d = Due.edge(TERMS, "LIMIT is 256 bytes for each BLOCK", size);
            d.is(limits[size], "count", 4);
            int left = limits[size];
            int commits = 0;
            while (left >= 1064) {
                d.is(0, "begin").tape(commits, 1040).is(1, "put", 0, 40).is(commits + 1, "commit", 0);
                commits++;
                left -= 1064;
            }
            d.needed(limits[size] - left).is(0, "begin").put(1, 0, "z", "x".repeat(left - 24)).is(Due.INDEX, "commit", 0);
            d.put(1, 0, "z", "x".repeat(left - 25)).is(commits + 1, "commit", 0).needed(limits[size]);
            d.is(0, "begin").put(1, 0, "y", "").is(Due.INDEX, "commit", 0).is(1, "abort", 0);
            d.is(limits[size], "flush").is(limits[size], "collect").is(limits[size], "compact", true).is(commits + 1, "mount");
            d.needed(limits[size]).sound(commits + 1);
        }
    }

    // ---- the tape and the result ----

    private static void tapeAndResult() {
        Due d = Due.edge(TERMS, "THE TAPE has at most 2000 bytes, THE RESULT at most 1000");
        d.tape(1, 2000).is(2000, "count", 7).is(Due.INDEX, "fill", 1, 1).is(Due.INDEX, "feed", 1, 1, 1, 1, 1).is(2000, "count", 7);
        d.is(0, "end", 0).is(0, "begin").tape(2, 1001).is(1, "put", 0, 1).tape(2, 1).is(1000, "get", 0).is(1000, "count", 8);
        d.is(2L << 56, "word", 999).is(Due.INDEX, "word", 1000).file("f", 1).tape(3, 2000).is(2000, "write", 1, 0);
        d.is(1000, "read", 1, 0, 1000).is(1000, "count", 8).is(3L << 56, "word", 999).is(Due.ARGUMENT, "read", 1, 0, 1001);
        for (int size = 0; size < 3; size++) {
            Due e = Due.edge(TERMS, "both are empty at first", size);
            e.is(0, "count", 7).is(0, "count", 8).is(Due.ARGUMENT, "end", 1).is(Due.INDEX, "word", 0);
        }
    }

    private static void readersOfTheTape() {
        Due d = Due.edge(TERMS, "A call that reads the TAPE leaves it empty");
        d.is(0, "begin").tape("kv").is(1, "put", 0, 1).is(0, "count", 7).tape("k").is(1, "get", 0).is(0, "count", 7);
        d.tape("k").is(1, "seek", 0, false).is(0, "count", 7).tape("k").is(1, "delete", 0).is(0, "count", 7);
        d.tape("k").is(-1, "get", 0).is(0, "count", 7).tape("k").is(-1, "seek", 0, false).is(0, "count", 7);
        d.tape("a").is(1, "make", 0, false).is(0, "count", 7).tape("ab").is(1, "rename", 0, 0, 1).is(0, "count", 7);
        d.tape("bb").is(1, "rename", 0, 0, 1).is(0, "count", 7).tape("b").is(1, "find").is(0, "count", 7);
        d.tape("xyz").is(3, "write", 1, 0).is(0, "count", 7).tape("b").is(1, "remove", 0).is(0, "count", 7);
    }

    /** The store is full; transaction 0 has 4000 bytes of writes. */
    private static Due full(String place, String words) {
        Due d = Due.edge(place, words);
        d.file("f", 1).directory("d", 2).tape("e").is(3, "make", 2, true);
        for (int at = 0; at < 14000; at += 2000) {
            d.tape(255, 2000).is(at + 2000, "write", 1, at);
        }
        d.tape(255, 1358).is(15358, "write", 1, 14000).needed(63 * 3 + 15358 + 30 * 27).tape("m");
        d.is(Due.INDEX, "make", 0, false).is(0, "begin");
        for (int i = 0; i < 4; i++) {
            d.tape(i, 1000).is(i + 1, "put", 0, 1);
        }
        return d;
    }

    private static void readersOfTheTapeThatThrow() {
        Due d = full(TERMS, "also if it throws");
        d.tape("kv").is(Due.NONE, "put", 1, 1).is(0, "count", 7).tape("kv").is(Due.UNSUPPORTED, "put", 0, 1).is(0, "count", 7);
        d.tape("k").is(Due.NONE, "delete", 1).is(0, "count", 7).tape("k").is(Due.UNSUPPORTED, "delete", 0).is(0, "count", 7);
        d.tape("k").is(Due.NONE, "get", 1).is(0, "count", 7).tape("k").is(Due.NONE, "seek", 1, false).is(0, "count", 7);
        d.tape("x").is(Due.NONE, "make", 1, false).is(0, "count", 7).tape("d").is(Due.UNSUPPORTED, "make", 0, false).is(0, "count", 7);
        d.tape("n".repeat(30)).is(Due.INDEX, "make", 0, false).is(0, "count", 7);
        d.tape("x").is(Due.NONE, "remove", 0).is(0, "count", 7).tape("d").is(Due.UNSUPPORTED, "remove", 0).is(0, "count", 7);
        d.tape("xy").is(Due.NONE, "rename", 0, 0, 1).is(0, "count", 7).tape("df").is(Due.UNSUPPORTED, "rename", 0, 0, 1).is(0, "count", 7);
        d.tape("f" + "n".repeat(30)).is(Due.INDEX, "rename", 0, 0, 1).is(0, "count", 7);
        d.tape("x").is(Due.NONE, "find").is(0, "count", 7).tape("x").is(Due.NONE, "write", 2, 0).is(0, "count", 7);
        d.tape(1, 100).is(Due.INDEX, "write", 1, 15358).is(0, "count", 7);
        // and where the power fails
        d.is(0, "cut", false, 0, 0).tape("x").is(Due.STATE, "write", 1, 0).is(0, "count", 7).is(11, "mount").is(0, "count", 7).sound(3);
    }

    private static void tapeOfTheWrongForm() {
        Due d = Due.edge(TERMS, "unless that is IllegalArgumentException");
        d.is(0, "begin").tape("tape").is(Due.ARGUMENT, "put", 8, 1).is(Due.ARGUMENT, "put", 0, 5).is(Due.ARGUMENT, "delete", -1);
        d.is(Due.ARGUMENT, "get", 8).is(Due.ARGUMENT, "seek", 8, true).is(Due.ARGUMENT, "make", 201, true).is(Due.ARGUMENT, "remove", 201);
        d.is(Due.ARGUMENT, "rename", 0, 0, 4).is(Due.ARGUMENT, "write", 201, 0).is(Due.ARGUMENT, "write", 0, 16381).is(Due.ARGUMENT, "end", 5);
        d.is(Due.ARGUMENT, "fill", 256, 1).is(Due.ARGUMENT, "fill", 1, 0).tapeIs("tape");
        String name = "n".repeat(14) + "/" + "m".repeat(26);
        d.tape(name).is(Due.ARGUMENT, "delete", 0).is(Due.ARGUMENT, "get", 0).is(Due.ARGUMENT, "seek", 0, false);
        d.is(Due.ARGUMENT, "make", 0, true).is(Due.ARGUMENT, "remove", 0).is(Due.ARGUMENT, "rename", 0, 0, 20).tapeIs(name);
    }

    private static void notReadersOfTheTape() {
        Due d = Due.edge(TERMS, "reads the TAPE");
        d.file("f", 1).tape("tape").is(0, "begin").is(0, "abort", 0).is(Due.NONE, "abort", 0).is(0, "begin").is(1, "commit", 0);
        d.is(Due.NONE, "commit", 0).is(63, "flush").is(63, "compact", false).is(63, "compact", true).is(63, "collect");
        d.is(Due.INDEX, "word", 0).is(4, "count", 7).is(0, "faults", 0).is(1, "check").is(0, "read", 1, 0, 9).is(Due.NONE, "read", 0, 0, 9);
        d.is(0, "resize", 1, 9).is(Due.NONE, "resize", 2, 9).is(1, "list", 0, 0).is(Due.NONE, "list", 0, 1).is(9, "about", 1, 1);
        d.is(Due.NONE, "about", 2, 1).tapeIs("tape").tape("tape").is(0, "cut", false, 0, 0).tapeIs("tape");
    }

    // ---- keys and moments ----

    private static void lengthsOfKeysAndValues() {
        Due d = Due.edge(TERMS, "KEYS are 1 .. 40 bytes, VALUES 0 .. 1000");
        d.is(0, "begin").put(1, 0, "a", "").put(2, 0, KEY_40, VALUE_1000).put(3, 0, "b", VALUE_1000).put(4, 0, KEY_40.substring(1), "");
        d.tape(KEY_40 + "k").is(Due.ARGUMENT, "put", 0, 41).is(Due.ARGUMENT, "put", 0, 0).is(Due.ARGUMENT, "delete", 0);
        d.is(Due.ARGUMENT, "get", 0).is(0, "end", 0).is(Due.ARGUMENT, "put", 0, 0).is(Due.ARGUMENT, "put", 0, 1);
        d.is(Due.ARGUMENT, "delete", 0).is(Due.ARGUMENT, "get", 0);
        d.tape("b" + VALUE_1000 + "v").is(Due.ARGUMENT, "put", 0, 1).is(5, "put", 0, 2).is(1, "commit", 0);
        for (int round = 0; round < 2; round++) {
            d.is(0, "begin").has(0, "a", "").has(0, KEY_40.substring(1), "").tape(KEY_40).is(1000, "get", 0);
            d.tape("b").is(1000, "get", 0).tape("bv").is(1000, "get", 0).is(5, "count", 5).sound(5).is(1, "mount");
        }
    }

    private static final String[] IN_ORDER = {
        "\0", "\0\0", "\0\u00ff", "\u0001", ".", "0", "a", "a\0", "a\0\0", "aa", "ab", "b", "k".repeat(29), "k".repeat(30),
        "k".repeat(29) + "l", "\u007f", "\u0080", "\u0080\u007f", "\u0080\u0080", "\u00fe\u00ff", "\u00ff", "\u00ff\0", "\u00ff\u00ff",
    };

    private static void orderOfKeys() {
        Due d = Due.edge(TERMS, "KEYS and NAMES come in the order of their first different bytes (0 .. 255), a beginning before what goes on");
        int n = IN_ORDER.length;
        for (int i = 0; i < n; i++) {
            // 7 and 23 have no divisor together, so this goes through all of them
            d.commit(IN_ORDER[i * 7 % n], "");
        }
        d.is(0, "begin").seeks(0, "", false, IN_ORDER[0]);
        for (int i = 0; i < n; i++) {
            d.seeks(0, IN_ORDER[i], true, i + 1 < n ? IN_ORDER[i + 1] : null);
        }
        Due e = Due.edge(TERMS, "KEYS and NAMES come in the order of their first different bytes");
        e.is(0, "begin").put(1, 0, KEY_40, "").put(2, 0, KEY_40.substring(1), "").put(3, 0, KEY_40.substring(1) + "l", "");
        e.put(4, 0, KEY_40.substring(1) + "\0", "").is(1, "commit", 0).is(0, "begin").seeks(0, "", false, KEY_40.substring(1));
        e.seeks(0, KEY_40.substring(1), true, KEY_40.substring(1) + "\0").seeks(0, KEY_40.substring(1) + "\0", true, KEY_40);
        e.seeks(0, KEY_40, true, KEY_40.substring(1) + "l").seeks(0, KEY_40.substring(1) + "l", true, null);
    }

    private static void orderOfNames() {
        Due d = Due.edge(TERMS, "in the order of their first different bytes (0 .. 255), a beginning before what goes on");
        int n = IN_ORDER.length;
        for (int i = 0; i < n; i++) {
            d.file(IN_ORDER[i * 7 % n], i + 1);
        }
        for (int i = 0; i < n; i++) {
            int number = 1;
            while ((number - 1) * 7 % n != i) {
                number++;
            }
            d.is(number, "list", 0, i).result(IN_ORDER[i]).tape(IN_ORDER[i]).is(number, "find");
        }
    }

    private static void presentMoment() {
        Due d = Due.edge(TERMS, "The PRESENT one, 0 at first, rises by 1 with each commit that has WRITES and is done");
        d.moment(0).is(0, "begin").is(0, "commit", 0).moment(0).is(0, "begin").is(1, "begin").put(1, 0, "a", "1").moment(0);
        d.is(1, "commit", 0).moment(1).put(1, 1, "a", "2").is(Due.UNSUPPORTED, "commit", 1).moment(1);
        d.is(0, "begin").delete(1, 0, "none").is(2, "commit", 0).moment(2).is(0, "begin").put(1, 0, "b", "").is(1, "abort", 0).moment(2);
        d.is(26, "flush").is(26, "compact", true).is(26, "collect").moment(2).is(2, "mount").moment(2);
        d.is(0, "cut", false, 0, 0).commitNot("c").is(2, "mount").is(0, "cut", true, 0, 0).commitNot("c").is(3, "mount").moment(3);
        Due e = Due.edge(TERMS, "with each call on files that changes something (make, remove, write always, rename and resize but for what they say)");
        e.file("a", 1).moment(1).directory("d", 2).moment(2).tape("x").is(1, "write", 1, 0).moment(3).tape("x").is(1, "write", 1, 0).moment(4);
        e.is(1, "resize", 1, 1).moment(4).is(1, "resize", 1, 2).moment(5).tape("aa").is(1, "rename", 0, 0, 1).moment(5);
        e.tape("ab").is(1, "rename", 0, 0, 1).moment(6).tape("bb").is(1, "rename", 0, 2, 1).moment(7).tape("b").is(1, "remove", 2).moment(8);
        e.tape("d").is(Due.UNSUPPORTED, "make", 0, true).tape("e").is(Due.NONE, "remove", 0).moment(8).is(8, "mount").moment(8);
    }

    private static void keysAtMoments() {
        Due d = Due.edge(TERMS, "What a KEY has at a MOMENT is the VALUE that the last commit up to it gave it, or none, if that took it out or there is none");
        String[] values = {null, "1", "1", "", null, null, "22", null};
        d.is(0, "begin");
        for (int t = 1; t < 8; t++) {
            if (values[t] == null) {
                d.commitOut("k");
            } else {
                d.commit("k", values[t]);
            }
            d.is(t, "begin");
        }
        for (int round = 0; round < 3; round++) {
            for (int t = 0; t < 8; t++) {
                d.has(t, "k", values[t]).seeks(t, "", false, values[t] == null ? null : "k");
            }
            // 1 twice, nothing, 22; and three times taken out, while others see moments before
            int needed = 26 + 26 + 25 + 27 + 3 * 25;
            d.needed(needed).is(0, "count", 5).is(needed, round == 0 ? "flush" : "collect").is(needed, "compact", round == 1);
        }
        d.sound(0);
    }

    // ---- transactions ----

    private static void openOrNot() {
        Due d = Due.edge(TERMS, "TRANSACTIONS 0 .. 7 are OPEN or not (at first)");
        for (int t = 0; t < 8; t++) {
            d.is(Due.NONE, "commit", t).is(Due.NONE, "abort", t).tape("kv").is(Due.NONE, "put", t, 1).tape("k").is(Due.NONE, "delete", t);
            d.tape("k").is(Due.NONE, "get", t).tape("k").is(Due.NONE, "seek", t, false);
        }
        for (int t : new int[] {-1, 8, Integer.MIN_VALUE, Integer.MAX_VALUE}) {
            d.is(Due.ARGUMENT, "commit", t).is(Due.ARGUMENT, "abort", t).is(Due.ARGUMENT, "seek", t, false).tape("kv");
            d.is(Due.ARGUMENT, "put", t, 1).is(Due.ARGUMENT, "delete", t).is(Due.ARGUMENT, "get", t).is(0, "end", 0);
        }
        d.is(0, "count", 2);
        for (int t = 0; t < 8; t++) {
            d.is(t, "begin").put(1, t, "k", "" + t).has(t, "k", "" + t);
        }
        d.is(8, "count", 2);
    }

    private static void seesTheMomentWhenItBegan() {
        Due d = Due.edge(TERMS, "An OPEN one SEES the MOMENT that was the PRESENT one when it began");
        d.commit("a", "1").is(0, "begin").commit("a", "2").commit("b", "1").is(1, "begin").commitOut("a");
        d.has(0, "a", "1").has(0, "b", null).has(1, "a", "2").has(1, "b", "1").is(2, "begin").has(2, "a", null).has(2, "b", "1");
        d.seeks(0, "a", true, null).seeks(1, "a", true, "b").seeks(2, "", false, "b");
    }

    private static void mostWrites() {
        Due d = Due.edge(TERMS, "at most 32 KEYS, each with a VALUE, or taken out");
        d.is(0, "begin").is(1, "begin");
        for (int i = 0; i < 32; i++) {
            d.put(i + 1, 0, "k" + (char) i, "").delete(i + 1, 1, "k" + (char) i);
        }
        d.tape("x").is(Due.UNSUPPORTED, "put", 0, 1).tape("x").is(Due.UNSUPPORTED, "delete", 0).tape("x").is(Due.UNSUPPORTED, "put", 1, 1);
        d.tape("x").is(Due.UNSUPPORTED, "delete", 1).has(0, "x", null).is(1, "commit", 0).is(32, "count", 5).is(32, "abort", 1).sound(32);
        Due e = Due.edge(TERMS, "of at most 4000 bytes in all (KEYS and VALUES)");
        e.is(0, "begin");
        for (int i = 0; i < 3; i++) {
            e.tape(i, 1040).is(i + 1, "put", 0, 40);
        }
        e.tape(9, 881).is(Due.UNSUPPORTED, "put", 0, 40).tape(9, 881).is(Due.UNSUPPORTED, "put", 0, 1).tape(9, 880).is(4, "put", 0, 40);
        e.tape("x").is(Due.UNSUPPORTED, "put", 0, 1).tape("x").is(Due.UNSUPPORTED, "delete", 0).is(1, "commit", 0).needed(4000 + 4 * 24);
        // keys that are taken out count with their bytes
        e.is(0, "begin").tape(1, 1001).is(1, "put", 0, 1).tape(2, 1001).is(2, "put", 0, 1).tape(3, 1001).is(3, "put", 0, 1);
        e.tape(4, 957).is(4, "put", 0, 1).delete(5, 0, KEY_40).tape("x").is(Due.UNSUPPORTED, "delete", 0).is(5, "abort", 0);
    }

    private static void whatAKeyHasToATransaction() {
        Due d = Due.edge(TERMS, "To it a KEY has what its WRITES say, else what it has at the MOMENT that it SEES");
        d.commit("a", "old").commit("b", "old").is(0, "begin").is(1, "begin").put(1, 0, "a", "new").delete(2, 0, "b").put(3, 0, "c", "");
        d.has(0, "a", "new").has(0, "b", null).has(0, "c", "").has(1, "a", "old").has(1, "b", "old").has(1, "c", null);
        d.seeks(0, "a", true, "c").seeks(1, "a", true, "b").delete(3, 0, "c").has(0, "c", null).put(3, 0, "b", "again").has(0, "b", "again");
        d.commit("a", "third").has(0, "a", "new").has(1, "a", "old").is(3, "abort", 0).is(0, "begin").has(0, "a", "third").has(0, "b", "old");
    }

    // ---- needed ----

    private static void neededOfValues() {
        Due d = Due.edge(TERMS, "(once, if that is so at several of these): if the commit gave it a VALUE, 24 and the bytes of KEY and VALUE");
        d.needed(0).commit("ab", "xyz").needed(29).is(0, "begin").is(1, "begin").is(2, "begin").needed(29).commit("ab", "").needed(29 + 26);
        d.is(3, "begin").needed(55).is(0, "abort", 0).is(0, "abort", 1).needed(55).is(0, "abort", 2).needed(26).is(0, "abort", 3).needed(26);
        // one that nobody sees is not needed, between two that are
        d.is(0, "begin").commit("ab", "1").needed(26 + 27).commit("ab", "22").needed(26 + 28).is(1, "begin").commit("ab", "333");
        d.needed(26 + 28 + 29).is(0, "abort", 0).needed(28 + 29).is(0, "abort", 1).needed(29);
        // writes that are not done are none
        d.is(0, "begin").put(1, 0, "q", VALUE_1000).needed(29).is(1, "abort", 0).commit(KEY_40, VALUE_1000).needed(29 + 1064).sound(2);
    }

    private static void neededOfWhatWasTakenOut() {
        Due d = Due.edge(TERMS, "if it took it out, and an OPEN TRANSACTION SEES a MOMENT before that commit, 24 and the bytes of KEY");
        d.commit("ab", "xyz").commitOut("ab").needed(0).commit("ab", "xyz").is(0, "begin").commitOut("ab").needed(29 + 26);
        // to see the moment of that commit itself is not to see one before
        d.is(1, "begin").needed(55).is(0, "abort", 0).needed(0).commitOut("none").needed(28).is(0, "begin").needed(28).is(0, "abort", 1).needed(0);
        // a newer value is there: it counts while one has it so, and another sees a moment before
        d.is(0, "abort", 0).commit("ab", "xyz").is(0, "begin").commitOut("ab").is(1, "begin").commit("ab", "").needed(29 + 26 + 26);
        d.is(2, "begin").is(0, "abort", 1).needed(29 + 26).is(0, "abort", 0).needed(26).is(0, "abort", 2).needed(26);
        Due e = Due.edge(TERMS, "and an OPEN TRANSACTION SEES a MOMENT before that commit");
        e.commit("ab", "xyz").is(0, "begin").commitOut("ab").is(1, "begin").commit("ab", "").needed(29 + 26 + 26).is(0, "abort", 0).needed(26);
        e.has(1, "ab", null).is(26, "flush").has(1, "ab", null).is(26, "compact", true).has(1, "ab", null).is(26, "collect").has(1, "ab", null);
        e.sound(1).is(3, "mount").needed(26);
    }

    private static void neededOfFiles() {
        Due d = Due.edge(TERMS, "and what FILES take at present");
        d.is(0, "begin").file("f", 1).needed(63).tape(1, 600).is(600, "write", 1, 0).needed(63 + 654).is(1, "begin").is(600, "resize", 1, 1);
        d.needed(63 + 28).is(2, "begin").tape("f").is(1, "remove", 0).needed(0).commit("k", "").needed(25).directory("dd", 1).needed(25 + 64);
    }

    // ---- files ----

    private static void numbers() {
        Due d = Due.edge(TERMS, "FILES and DIRECTORIES have NUMBERS, 1 .. 200");
        for (int i = 1; i <= 200; i++) {
            d.tape(i < 47 ? i : i + 1, 1).is(i, "make", 0, i % 2 == 0);
        }
        d.tape("\0").is(Due.INDEX, "make", 0, false).is(200, "count", 6).needed(200 * 63).is(2, "about", 200, 0);
        d.is(Due.ARGUMENT, "about", 201, 0).tape(201, 1).is(200, "remove", 0).tape("\0").is(200, "make", 0, false).is(1, "about", 200, 0);
        d.sound(200).is(202, "mount").sound(200);
    }

    private static void root() {
        Due d = Due.edge(TERMS, "0 is the ROOT, a DIRECTORY that is always there");
        for (int round = 0; round < 2; round++) {
            d.is(2, "about", 0, 0).is(0, "about", 0, 1).is(0, "about", 0, 2).is(0, "about", 0, 3).is(0, "find").is(0, "count", 6).needed(0);
            d.is(Due.NONE, "list", 0, 0).is(Due.NONE, "read", 0, 0, 0).is(Due.NONE, "resize", 0, 0).tape("x").is(Due.NONE, "write", 0, 0);
            d.file("x", 1).tape("x").is(1, "remove", 0).is(2 + 2 * round, "mount");
        }
    }

    private static void names() {
        Due d = Due.edge(TERMS, "Each but the ROOT has a NAME, 1 .. 30 bytes, none of them 47, in a DIRECTORY");
        d.is(Due.ARGUMENT, "make", 0, false).is(Due.ARGUMENT, "remove", 0).file("a", 1).file("b".repeat(30), 2).needed(63 + 92);
        d.tape("c".repeat(31)).is(Due.ARGUMENT, "make", 0, true).is(Due.ARGUMENT, "remove", 0).is(0, "end", 0);
        for (String s : new String[] {"/", "/a", "a/", "a/a", "a".repeat(29) + "/"}) {
            d.tape(s).is(Due.ARGUMENT, "make", 0, false).is(Due.ARGUMENT, "remove", 0).is(0, "end", 0);
            d.tape("a" + s).is(Due.ARGUMENT, "rename", 0, 0, 1).is(0, "end", 0).tape(s + "x").is(Due.ARGUMENT, "rename", 0, 0, s.length()).is(0, "end", 0);
        }
        d.file(".", 3).file("0", 4).file("\0", 5).file("\u00ff", 6).file("a\\", 7).is(7, "count", 6).tape("a").is(Due.NONE, "make", 1, false).sound(7);
        Due e = Due.edge(TERMS, "no two in one have the same");
        e.directory("d", 1).file("a", 2).tape("a").is(Due.UNSUPPORTED, "make", 0, false).tape("a").is(Due.UNSUPPORTED, "make", 0, true);
        e.tape("d").is(Due.UNSUPPORTED, "make", 0, false).tape("a").is(3, "make", 1, true).tape("d").is(4, "make", 1, false).file("a\0", 5).file("aa", 6);
        e.tape("a").is(7, "make", 3, false).is(7, "count", 6).tape("d/a/a").is(7, "find").tape("a").is(2, "find").sound(7);
    }

    private static void sizes() {
        Due d = Due.edge(TERMS, "A FILE has a SIZE, 0 .. 16384, 0 at first");
        d.file("f", 1).is(0, "about", 1, 1).is(Due.ARGUMENT, "resize", 1, 16385).is(Due.ARGUMENT, "resize", 1, -1).is(0, "resize", 1, 16384);
        d.is(16384, "about", 1, 1).tape("ab").is(Due.ARGUMENT, "write", 1, 16383).is(16384, "write", 1, 16382).is(16384, "resize", 1, 0);
        d.is(0, "about", 1, 1).tape("ab").is(16384, "write", 1, 16382).is(16384, "about", 1, 1).is(3, "read", 1, 16381, 1000).result("\0ab");
        Due e = Due.edge(TERMS, "bytes of it that were not written are 0");
        e.file("f", 1).tape("\u00ff").is(1025, "write", 1, 1024).is(1000, "read", 1, 0, 1000).result("\0".repeat(1000));
        e.is(25, "read", 1, 1000, 1000).result("\0".repeat(24) + "\u00ff").is(1025, "resize", 1, 3000).is(9, "read", 1, 1024, 9).result("\u00ff" + "\0".repeat(8));
        e.tape("\u00ff").is(3000, "write", 1, 1030).is(9, "read", 1, 1023, 9).result("\0\u00ff\0\0\0\0\0\u00ff\0").is(4, "mount");
        e.is(9, "read", 1, 1023, 9).result("\0\u00ff\0\0\0\0\0\u00ff\0").is(8, "read", 1, 2992, 1000).result("\0".repeat(8)).sound(1);
    }

    private static void pieces() {
        Due d = Due.edge(TERMS, "A PIECE of a FILE is 512 bytes from a multiple of 512 on");
        d.file("f", 1).tape("a").is(512, "write", 1, 511).is(1, "about", 1, 3).needed(63 + 27 + 512);
        d.tape("b").is(513, "write", 1, 512).is(2, "about", 1, 3).needed(63 + 27 + 512 + 27 + 1);
        d.tape("cc").is(1025, "write", 1, 1023).is(3, "about", 1, 3).needed(63 + 3 * 27 + 2 * 512 + 1);
        d.tape(7, 514).is(2561, "write", 1, 2047).is(6, "about", 1, 3).needed(63 + 6 * 27 + 2 * 512 + 1 + 512 + 512 + 1);
        d.is(514, "read", 1, 2047, 1000).result("\u0007".repeat(514)).is(3, "read", 1, 510, 3).result("\0ab").sound(1);
        d.tape("z").is(16384, "write", 1, 16383).is(7, "about", 1, 3).is(6, "mount").is(7, "about", 1, 3);
        Due e = Due.edge(TERMS, "it is KEPT, if a byte of it was written, as far as to the last byte that was");
        e.file("f", 1).is(0, "resize", 1, 5000).is(0, "about", 1, 3).needed(63).tape("a").is(5000, "write", 1, 600).is(1, "about", 1, 3).needed(63 + 27 + 89);
        e.tape("a").is(5000, "write", 1, 512).needed(63 + 27 + 89).tape("\0").is(5000, "write", 1, 601).needed(63 + 27 + 90);
        e.tape(0, 1).is(5000, "write", 1, 1024).is(2, "about", 1, 3).needed(63 + 27 + 90 + 27 + 1).tape(0, 512).is(5000, "write", 1, 512);
        e.needed(63 + 27 + 512 + 27 + 1).tape(9, 2).is(5000, "write", 1, 511).is(3, "about", 1, 3).needed(63 + 3 * 27 + 1024 + 1).sound(1);
    }

    private static void shorter() {
        Due d = Due.edge(TERMS, "When a FILE becomes shorter, what is KEPT is cut at the new SIZE");
        d.file("f", 1).tape(1, 1537).is(1537, "write", 1, 0).needed(63 + 1537 + 4 * 27).is(1537, "resize", 1, 1536).needed(63 + 1536 + 3 * 27);
        d.is(1536, "resize", 1, 1535).is(3, "about", 1, 3).needed(63 + 1535 + 3 * 27).is(1535, "resize", 1, 1025).needed(63 + 1025 + 3 * 27);
        d.is(1025, "resize", 1, 1024).is(2, "about", 1, 3).needed(63 + 1024 + 2 * 27).is(1024, "resize", 1, 1).needed(63 + 1 + 27);
        d.is(1, "resize", 1, 0).is(0, "about", 1, 3).needed(63).sound(1);
        // what is not as long as the new size stays
        d.tape(1, 10).is(10, "write", 1, 0).is(10, "resize", 1, 400).is(400, "resize", 1, 11).needed(63 + 27 + 10).is(11, "resize", 1, 10).needed(63 + 27 + 10);
        Due e = Due.edge(TERMS, "(a PIECE that begins there or behind is not KEPT any more)");
        e.file("f", 1).tape("a").is(513, "write", 1, 512).tape("b").is(1025, "write", 1, 1024).is(2, "about", 1, 3).is(1025, "resize", 1, 1024);
        e.is(1, "about", 1, 3).is(1024, "resize", 1, 513).is(1, "about", 1, 3).needed(63 + 28).is(513, "resize", 1, 512).is(0, "about", 1, 3).needed(63);
        // cut within a piece of which no byte before was written: it is kept up to there
        e.tape("c").is(812, "write", 1, 811).needed(63 + 27 + 300).is(812, "resize", 1, 513).is(1, "about", 1, 3).needed(63 + 27 + 1).sound(1);
        Due g = Due.edge(TERMS, "and what was behind it counts as never written");
        g.file("f", 1).tape(7, 2000).is(2000, "write", 1, 0).is(2000, "resize", 1, 700).is(700, "resize", 1, 2000).is(2, "about", 1, 3);
        g.is(9, "read", 1, 698, 9).result("\7\7\0\0\0\0\0\0\0").is(9, "read", 1, 1020, 9).result("\0".repeat(9)).needed(63 + 700 + 2 * 27);
        g.tape("z").is(2000, "write", 1, 703).is(6, "read", 1, 698, 6).result("\7\7\0\0\0z").needed(63 + 704 + 2 * 27).is(5, "mount");
        g.is(6, "read", 1, 698, 6).result("\7\7\0\0\0z").is(8, "read", 1, 1992, 8).result("\0".repeat(8)).needed(63 + 704 + 2 * 27).sound(1);
    }

    private static void whatTheyTake() {
        Due d = Due.edge(TERMS, "They take, each but the ROOT, 62 bytes and those of its NAME, and for each PIECE that is KEPT 27 and as many as are KEPT");
        d.needed(0).directory("d", 1).needed(63).directory("n".repeat(30), 2).needed(63 + 92).tape("f").is(3, "make", 2, false).needed(63 + 92 + 63);
        d.tape("x").is(1, "write", 3, 0).needed(218 + 28).is(1, "resize", 3, 16384).needed(218 + 28).tape("x").is(16384, "write", 3, 16383);
        d.needed(218 + 28 + 27 + 512).tape("n".repeat(30) + "e").is(2, "rename", 0, 0, 30).needed(218 + 28 + 27 + 512 - 29).sound(3);
    }

    public static void main(String[] args) {
        chipGoesAround();
        limit();
        tapeAndResult();
        readersOfTheTape();
        readersOfTheTapeThatThrow();
        tapeOfTheWrongForm();
        notReadersOfTheTape();
        lengthsOfKeysAndValues();
        orderOfKeys();
        orderOfNames();
        presentMoment();
        keysAtMoments();
        openOrNot();
        seesTheMomentWhenItBegan();
        mostWrites();
        whatAKeyHasToATransaction();
        neededOfValues();
        neededOfWhatWasTakenOut();
        neededOfFiles();
        numbers();
        root();
        names();
        sizes();
        pieces();
        shorter();
        whatTheyTake();
        Due.finish();
    }
}
