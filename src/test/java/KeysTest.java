/** Promises 1 to 11 and 17, 18: the tape, the transactions and what they see. */
public final class KeysTest {
    private static final String LONG_KEY = "k".repeat(40);

    private static void newObject() {
        int[] sizes = {0, 1, 2, 3, -1, Integer.MAX_VALUE, Integer.MIN_VALUE};
        int[] limits = {16384, 24576, 32768, 32768, 32768, 32768, 32768};
        for (int i = 0; i < sizes.length; i++) {
            Due d = new Due("1 new " + sizes[i], sizes[i]);
            int[] counts = {0, 1, 0, 0, limits[i], 0, 0, 0, 0, 0};
            for (int what = 0; what <= 9; what++) {
                d.is(counts[what], "count", what);
            }
            d.sound(0).is(0, "about", 0, 1).is(2, "about", 0, 0).is(0, "mount").sound(0);
        }
    }

    private static void feed() {
        Due d = new Due("2 feed", 0);
        d.is(20, "feed", 0x01020304, 0x05060708, -1, 0x80000000, 0x7fffffff).is(20, "count", 7);
        d.is(20, "end", 20).is(0, "begin").is(1, "put", 0, 1).tape("\u0001").is(19, "get", 0);
        d.is(0x02030405060708ffL, "word", 0).is(0x08ffffffff800000L, "word", 6).is(0x7fffffff00000000L, "word", 15);
        for (int i = 1; i <= 100; i++) {
            d.is(20 * i, "feed", i, i, i, i, i);
        }
        d.is(Due.INDEX, "feed", 0, 0, 0, 0, 0).is(2000, "count", 7);
        d.is(1981, "end", 1981).is(Due.INDEX, "feed", 0, 0, 0, 0, 0).is(1980, "end", 1980).is(2000, "feed", 0, 0, 0, 0, 0);
        d.is(0, "cut", true, 0, 0).is(Due.STATE, "flush").is(Due.STATE, "feed", 0, 0, 0, 0, 0).is(0, "count", 7);
    }

    private static void fill() {
        Due d = new Due("3 fill", 0);
        d.is(1, "fill", 0, 1).is(1001, "fill", 255, 1000).is(Due.INDEX, "fill", 1, 1000).is(1001, "count", 7);
        d.is(2000, "fill", 1, 999).is(Due.INDEX, "fill", 1, 1).is(2000, "count", 7);
        d.is(Due.ARGUMENT, "fill", 256, 1).is(Due.ARGUMENT, "fill", -1, 1).is(Due.ARGUMENT, "fill", 0, 0);
        d.is(Due.ARGUMENT, "fill", 0, 1001).is(Due.ARGUMENT, "fill", 0, -1).is(Due.ARGUMENT, "fill", 0, Integer.MAX_VALUE);
        d.is(4, "end", 4).is(0, "begin").is(1, "put", 0, 1).tape("\0").is(3, "get", 0).result("\u00ff\u00ff\u00ff");
        d.is(0, "cut", true, 0, 0).is(Due.STATE, "flush");
        d.is(Due.ARGUMENT, "fill", 256, 1).is(Due.STATE, "fill", 255, 1).is(0, "count", 7);
    }

    private static void end() {
        Due d = new Due("4 end", 0);
        d.is(0, "end", 0).is(Due.ARGUMENT, "end", 1).is(Due.ARGUMENT, "end", -1);
        d.tape("abcdef").is(6, "end", 6).is(Due.ARGUMENT, "end", 7).is(6, "count", 7).is(3, "end", 3).is(3, "count", 7);
        d.tape("xy").is(0, "begin").is(1, "put", 0, 1).has(0, "a", "bcxy");
        d.tape("abc").is(0, "cut", true, 0, 0).is(Due.STATE, "flush");
        d.is(Due.ARGUMENT, "end", 1).is(Due.STATE, "end", 0);
    }

    private static void begin() {
        Due d = new Due("5 begin", 0);
        for (int t = 0; t < 8; t++) {
            d.is(t, "begin").is(t + 1, "count", 2);
        }
        d.is(Due.INDEX, "begin").is(8, "count", 2).is(0, "abort", 5).is(0, "abort", 2).is(2, "begin").is(5, "begin");
        d.tape("kv").is(1, "put", 5, 1).is(1, "abort", 5).is(5, "begin").has(5, "k", null).is(0, "abort", 5);
        d.is(0, "cut", true, 0, 0).is(Due.STATE, "flush").is(Due.STATE, "begin").is(0, "mount").is(0, "begin");
    }

    private static void putForms() {
        Due d = new Due("6 put, forms", 0);
        d.is(0, "begin");
        d.is(Due.ARGUMENT, "put", 0, 1);
        d.tape("abc").is(Due.ARGUMENT, "put", -1, 1).is(Due.ARGUMENT, "put", 8, 1).is(Due.ARGUMENT, "put", 0, 0);
        d.is(Due.ARGUMENT, "put", 0, 4).is(Due.ARGUMENT, "put", 0, -1).is(3, "count", 7);
        d.is(Due.NONE, "put", 1, 1).is(0, "count", 7);
        d.tape(97, 41).is(Due.ARGUMENT, "put", 0, 41).is(41, "count", 7).is(1, "put", 0, 40).is(0, "count", 7);
        d.tape(97, 1002).is(Due.ARGUMENT, "put", 0, 1).is(2, "put", 0, 2);
        d.tape(98, 1040).is(3, "put", 0, 40);
        d.tape(99, 2000).is(Due.ARGUMENT, "put", 0, 40).is(0, "end", 0);
        d.tape("e").is(4, "put", 0, 1).has(0, "e", "");
        d.tape("e1").is(4, "put", 0, 1).has(0, "e", "1");
        d.tape("abc").is(0, "cut", true, 0, 0).is(Due.STATE, "flush").is(Due.ARGUMENT, "put", 0, 1);
    }

    private static void putLimits() {
        Due d = new Due("6 put, limits", 0);
        d.is(0, "begin");
        for (int i = 0; i < 32; i++) {
            d.tape("k" + (char) i).is(i + 1, "put", 0, 2);
        }
        d.tape("l").is(Due.UNSUPPORTED, "put", 0, 1).is(0, "count", 7).tape("l").is(Due.UNSUPPORTED, "delete", 0);
        d.tape("k\0v").is(32, "put", 0, 2).has(0, "k\0", "v").tape("k\0").is(32, "delete", 0).has(0, "k\0", null);
        d.is(32, "abort", 0).is(0, "begin");
        // 4000 bytes in all: 3 times 1000, and 1000 more
        for (int i = 0; i < 3; i++) {
            d.tape(i, 1000).is(i + 1, "put", 0, 1);
        }
        d.tape(9, 1001).is(Due.UNSUPPORTED, "put", 0, 1).is(0, "count", 7);
        d.tape(9, 1000).is(4, "put", 0, 1);
        d.tape("x").is(Due.UNSUPPORTED, "delete", 0).tape("x").is(Due.UNSUPPORTED, "put", 0, 1);
        // one in place of one there does not count, but what is thrown leaves that one
        d.tape(9, 1000).is(4, "put", 0, 1).tape(9, 1001).is(Due.UNSUPPORTED, "put", 0, 1);
        d.tape("\t").is(999, "get", 0).tape(9, 999).is(4, "put", 0, 1).tape("x").is(5, "delete", 0);
        d.tape("y").is(Due.UNSUPPORTED, "delete", 0).tape("x").is(5, "delete", 0).is(1, "commit", 0).is(4, "count", 5);
        d.sound(4);
    }

    private static void delete() {
        Due d = new Due("7 delete", 0);
        d.commit("a", "1").is(0, "begin");
        d.is(Due.ARGUMENT, "delete", 0).tape(97, 41).is(Due.ARGUMENT, "delete", 0).is(41, "count", 7).is(0, "end", 0);
        d.tape("a").is(Due.ARGUMENT, "delete", 8).is(Due.ARGUMENT, "delete", -1).is(Due.NONE, "delete", 3).is(0, "count", 7);
        d.tape("a").is(1, "delete", 0).has(0, "a", null).tape("none").is(2, "delete", 0).tape("a").is(2, "delete", 0);
        d.tape(LONG_KEY).is(3, "delete", 0).is(1, "begin").has(1, "a", "1");
        d.is(2, "commit", 0).is(0, "count", 5).has(1, "a", "1").is(0, "abort", 1).is(0, "count", 3).sound(0);
        d.is(2, "mount").sound(0).is(0, "begin").has(0, "a", null);
    }

    private static void get() {
        Due d = new Due("8 get", 0);
        d.commit("a", "one").commit(LONG_KEY, "").is(0, "begin");
        d.is(Due.ARGUMENT, "get", 0).tape(97, 41).is(Due.ARGUMENT, "get", 0).is(41, "count", 7).is(0, "end", 0);
        d.has(0, "a", "one");
        d.tape("a").is(Due.ARGUMENT, "get", 8).is(Due.ARGUMENT, "get", -1).is(Due.NONE, "get", 1).is(0, "count", 7);
        d.is(3, "count", 8).has(0, LONG_KEY, "").has(0, "k", null);
        d.commit("a", "two").has(0, "a", "one").is(1, "begin").has(1, "a", "two");
        d.tape("athree").is(1, "put", 0, 1).has(0, "a", "three").has(1, "a", "two");
        d.tape("a").is(1, "delete", 0).has(0, "a", null).has(1, "a", "two");
        d.tape(0, 1001).is(1, "put", 1, 1).tape("\0").is(1000, "get", 1).is(1000, "count", 8).is(0, "word", 999);
    }

    private static void seek() {
        Due d = new Due("9 seek", 0);
        d.is(0, "begin").is(-1, "seek", 0, false).is(0, "count", 8).is(0, "abort", 0);
        d.commit("b", "1").commit("ba", "2").commit("b\u00ff", "3").commit("\u00ff", "4").commit("\0", "5");
        d.is(0, "begin").is(1, "seek", 0, false).result("\0").tape("\0").is(1, "seek", 0, true).result("b");
        d.tape("b").is(1, "seek", 0, false).result("b").tape("b").is(2, "seek", 0, true).result("ba");
        d.tape("baa").is(2, "seek", 0, false).result("b\u00ff").tape("b\u00ff").is(1, "seek", 0, true).result("\u00ff");
        d.tape("\u00ff").is(1, "seek", 0, false).result("\u00ff").tape("\u00ff").is(-1, "seek", 0, true).result("");
        d.is(1, "seek", 0, true).result("\0");
        // its own writes come between, and hide
        d.tape("b").is(1, "delete", 0).tape("a9").is(2, "put", 0, 1).tape("bax").is(3, "put", 0, 2);
        d.tape("\0").is(1, "seek", 0, true).result("a").tape("a").is(2, "seek", 0, true).result("ba");
        d.tape("b").is(2, "seek", 0, false).result("ba");
        // what comes later is not seen, what goes later is
        d.is(1, "begin").tape("az").is(1, "put", 1, 2).tape("b\u00ff").is(2, "delete", 1).is(6, "commit", 1);
        d.tape("a").is(2, "seek", 0, true).result("ba").tape("bb").is(2, "seek", 0, false).result("b\u00ff");
        d.is(1, "begin").tape("bb").is(1, "seek", 1, false).result("\u00ff").tape("\0").is(2, "seek", 1, true).result("az");
        d.tape(97, 41).is(Due.ARGUMENT, "seek", 0, false).is(41, "count", 7).is(40, "end", 40);
        d.is(Due.ARGUMENT, "seek", 8, false).is(Due.ARGUMENT, "seek", -1, false).is(2, "seek", 1, false).result("az");
        d.tape("b").is(Due.NONE, "seek", 5, false).is(0, "count", 7).is(2, "count", 8);
        // files beside the keys are none
        d.file("zz", 1).is(2, "begin").tape("\u00ff").is(-1, "seek", 2, true);
        d.is(0, "cut", true, 0, 0).is(Due.STATE, "flush").is(Due.STATE, "seek", 0, false).is(Due.ARGUMENT, "seek", 9, false);
    }

    private static void commit() {
        Due d = new Due("10 commit", 0);
        d.is(Due.ARGUMENT, "commit", 8).is(Due.ARGUMENT, "commit", -1).is(Due.NONE, "commit", 0);
        d.is(0, "begin").is(0, "commit", 0).is(Due.NONE, "commit", 0).is(0, "count", 2);
        // a cut that waits is not met by a commit without writes
        d.is(0, "begin").is(0, "cut", false, 0, 0).is(0, "commit", 0).is(1, "count", 9).is(1, "cut", true, 0, 0);
        d.is(Due.STATE, "mount").is(0, "mount");
        // the same value again, and a taking out of what is not there, are changes
        d.commit("a", "1").is(0, "begin").is(1, "begin").is(2, "begin");
        d.tape("a1").is(1, "put", 0, 1).tape("q").is(2, "delete", 0).is(2, "commit", 0).is(2, "count", 2);
        d.tape("a1").is(1, "put", 1, 1).is(Due.UNSUPPORTED, "commit", 1).is(1, "count", 2).is(Due.NONE, "abort", 1);
        d.tape("q").is(1, "delete", 2).is(Due.UNSUPPORTED, "commit", 2).is(0, "count", 2).is(2, "count", 0);
        // others' keys do not matter, nor does a change before it began
        d.is(0, "begin").is(1, "begin").tape("b1").is(1, "put", 0, 1).tape("c1").is(1, "put", 1, 1);
        d.is(3, "commit", 1).is(4, "commit", 0).is(3, "count", 5).sound(3).is(4, "mount").sound(3);
        // a power that fails in flight takes all of it
        d.is(0, "begin").tape("d1").is(1, "put", 0, 1).tape("e1").is(2, "put", 0, 1).is(0, "cut", false, 7, 1000);
        d.is(Due.STATE, "commit", 0).is(0, "count", 1).is(Due.STATE, "commit", 0).is(Due.ARGUMENT, "commit", 8);
        d.is(4, "mount").is(Due.NONE, "commit", 0).is(3, "count", 5);
    }

    private static void needed() {
        Due d = new Due("10 needed", 0);
        d.commit("a", "12345").is(30, "count", 3).is(0, "begin").commit("a", "1").is(30 + 26, "count", 3);
        d.is(1, "begin").commit("a", "").is(30 + 26 + 25, "count", 3).is(0, "abort", 1).is(30 + 25, "count", 3);
        d.is(1, "begin").tape("a").is(1, "delete", 1).tape("bb").is(2, "delete", 1).is(4, "commit", 1);
        d.is(30 + 25 + 26, "count", 3).is(1, "begin").is(30 + 25 + 26, "count", 3).is(0, "abort", 0).is(0, "count", 3);
        // a taking out counts as long as one sees what was before it, also behind a newer value
        d.is(0, "begin").is(2, "begin").tape("a").is(1, "delete", 2).is(5, "commit", 2).is(2, "begin").commit("a", "xy");
        d.is(25 + 27, "count", 3).is(0, "abort", 0).is(25 + 27, "count", 3).is(0, "abort", 1).is(27, "count", 3);
        d.has(2, "a", null).is(0, "abort", 2).sound(1);
    }

    private static void limit() {
        Due d = new Due("10 limit", 0);
        // 16 values of 1000 bytes with keys of one byte would take 16 * 1025 = 16400
        for (int i = 0; i < 15; i++) {
            d.is(0, "begin").tape(i, 1001).is(1, "put", 0, 1).is(i + 1, "commit", 0);
        }
        d.is(15375, "count", 3).is(0, "begin").tape(15, 1001).is(1, "put", 0, 1).is(Due.INDEX, "commit", 0);
        d.is(1, "count", 2).tape(15, 986).is(1, "put", 0, 1).is(Due.INDEX, "commit", 0);
        d.tape(15, 985).is(1, "put", 0, 1).is(16, "commit", 0).is(16384, "count", 3);
        // what is refused meets no cut
        d.is(0, "cut", false, 0, 0).is(0, "begin").tape("z").is(1, "put", 0, 1).is(Due.INDEX, "commit", 0).is(1, "count", 9);
        d.is(1, "abort", 0).is(Due.STATE, "collect").is(16, "mount");
        // one that changes what is there is as heavy as what it leaves, with itself not open
        d.is(0, "begin").tape(3, 1001).is(1, "put", 0, 1).is(17, "commit", 0).is(16384, "count", 3);
        d.is(0, "begin").is(1, "begin").tape(3, 1).is(1, "put", 0, 1).is(Due.INDEX, "commit", 0);
        d.is(0, "abort", 1).is(18, "commit", 0).is(15384, "count", 3).sound(16);
        d.is(0, "begin").is(1, "begin").tape("\u0005").is(1, "delete", 1).is(19, "commit", 1).is(15409, "count", 3);
        d.is(0, "abort", 0).is(14359, "count", 3).sound(15);
    }

    private static void abort() {
        Due d = new Due("11 abort", 0);
        d.is(Due.ARGUMENT, "abort", 8).is(Due.ARGUMENT, "abort", -1).is(Due.NONE, "abort", 0);
        d.is(0, "begin").tape("a1").is(1, "put", 0, 1).tape("b").is(2, "delete", 0).is(2, "abort", 0).is(Due.NONE, "abort", 0);
        d.is(0, "count", 0).is(0, "begin").has(0, "a", null).is(0, "abort", 0);
        d.is(0, "cut", true, 0, 0).is(Due.STATE, "flush").is(Due.STATE, "abort", 0).is(Due.ARGUMENT, "abort", 8);
    }

    private static void word() {
        Due d = new Due("17 word", 0);
        d.is(Due.INDEX, "word", 0).commit("a", "\u0080\0\0\0\0\0\0\u0001\u00ff").is(0, "begin").tape("a").is(9, "get", 0);
        d.is(Long.MIN_VALUE + 1, "word", 0).is(511, "word", 1).is(0xff00000000000000L, "word", 8).is(Due.INDEX, "word", 9);
        d.is(Due.INDEX, "word", -1).is(Due.INDEX, "word", Integer.MIN_VALUE).is(Due.INDEX, "word", Integer.MAX_VALUE);
        // what throws leaves the result, and so do calls that answer no bytes
        d.tape("a").is(Due.NONE, "get", 4).is(9, "count", 8).is(34, "flush").is(9, "count", 8).is(0, "abort", 0).is(9, "count", 8);
        d.is(0, "cut", true, 0, 0).is(Due.STATE, "flush").is(0, "count", 8).is(Due.STATE, "word", 0).is(Due.STATE, "word", -1);
        d.is(1, "mount").is(Due.INDEX, "word", 0);
    }

    private static void count() {
        Due d = new Due("18 count", 1);
        d.is(Due.ARGUMENT, "count", -1).is(Due.ARGUMENT, "count", 10);
        d.commit("a", "1").commit("b", "2").file("f", 1).directory("g", 2).is(0, "begin").tape("xyz");
        int[] counts = {4, 1, 1, 26 + 26 + 63 + 63, 24576, 2, 2, 3, 0, 0};
        for (int what = 0; what <= 9; what++) {
            d.is(counts[what], "count", what);
        }
        d.is(0, "cut", true, 0, 0).is(1, "count", 9).is(Due.STATE, "mount");
        String[] down = {Due.STATE, "0", "0", Due.STATE, "24576", Due.STATE, Due.STATE, "0", "0", "0"};
        for (int what = 0; what <= 9; what++) {
            d.is(down[what], "count", what);
        }
        d.is(Due.ARGUMENT, "count", 10).is(4, "mount").is(2, "count", 5).is(2, "count", 6).sound(4);
    }

    public static void main(String[] args) {
        newObject();
        feed();
        fill();
        end();
        begin();
        putForms();
        putLimits();
        delete();
        get();
        seek();
        commit();
        needed();
        limit();
        abort();
        word();
        count();
        Due.finish();
    }
}
