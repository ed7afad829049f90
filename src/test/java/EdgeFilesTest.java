/** The boundary cases of promises 21 to 29, sentence by sentence. */
public final class EdgeFilesTest {
    private static final int LEAST = Integer.MIN_VALUE;
    private static final int MOST = Integer.MAX_VALUE;
    private static final String NAME_30 = "n".repeat(30);

    /** In the root d (1) and f (2); in d g (3) and e (4); nothing in e. */
    private static Due tree(String place, String words) {
        Due d = Due.edge(place, words);
        d.directory("d", 1).file("f", 2).tape("g").is(3, "make", 1, false).tape("e").is(4, "make", 1, true).moment(4);
        return d;
    }

    /** The store is full but for so many bytes: the file 1 (f) has the others. */
    private static Due full(String place, String words, int left) {
        Due d = Due.edge(place, words);
        d.file("f", 1);
        for (int at = 0; at < 14000; at += 2000) {
            d.tape(255, 2000).is(at + 2000, "write", 1, at);
        }
        // 31 pieces, or, where there is more left, 30
        int last = left < 124 ? 1484 - left : 1511 - left;
        d.tape(255, last).is(14000 + last, "write", 1, 14000).needed(16384 - left).moment(9);
        return d;
    }

    // ---- 21: make ----

    private static void make() {
        Due n = tree("Promise 21", "dir, file, number 0 .. 200 (so for all)");
        for (int number : new int[] {-1, 201, LEAST, MOST}) {
            n.tape("x").is(Due.ARGUMENT, "make", number, false).is(Due.ARGUMENT, "remove", number).is(Due.ARGUMENT, "write", number, 0).is(0, "end", 0);
            n.tape("fx").is(Due.ARGUMENT, "rename", number, 0, 1).is(Due.ARGUMENT, "rename", 0, number, 1).is(0, "end", 0).is(Due.ARGUMENT, "read", number, 0, 0);
            n.is(Due.ARGUMENT, "resize", number, 0).is(Due.ARGUMENT, "list", number, 0).is(Due.ARGUMENT, "about", number, 0);
        }
        n.tape("x").is(Due.NONE, "make", 200, false).tape("x").is(Due.NONE, "remove", 200).tape("x").is(Due.NONE, "write", 200, 0).tape("fx").is(Due.NONE, "rename", 200, 0, 1);
        n.tape("fx").is(Due.NONE, "rename", 0, 200, 1).is(Due.NONE, "read", 200, 0, 0).is(Due.NONE, "resize", 200, 0).is(Due.NONE, "list", 200, 0).is(Due.NONE, "about", 200, 0);
        Due t = tree("Promise 21", "The TAPE: a NAME");
        t.is(Due.ARGUMENT, "make", 0, false).tape("/").is(Due.ARGUMENT, "make", 0, false).is(0, "end", 0).tape("d/x").is(Due.ARGUMENT, "make", 0, false).is(0, "end", 0);
        t.tape(NAME_30 + "n").is(Due.ARGUMENT, "make", 0, false).is(30, "end", 30).is(5, "make", 0, false).tape(NAME_30).is(5, "find").tape("\0").is(6, "make", 4, true);
        t.tape("d/e/\0").is(6, "find").tape(1, 2000).is(Due.ARGUMENT, "make", 0, true);
        Due d = tree("Promise 21", "dir is no DIRECTORY: NoSuchElementException");
        d.tape("x").is(Due.NONE, "make", 2, false).tape("x").is(Due.NONE, "make", 3, true).tape("x").is(Due.NONE, "make", 5, true).tape("x").is(Due.NONE, "make", 200, true);
        d.tape("e").is(4, "remove", 1).tape("x").is(Due.NONE, "make", 4, true).moment(5).is(3, "count", 6);
        Due u = tree("Promise 21", "the NAME is there: UnsupportedOperationException");
        u.tape("d").is(Due.UNSUPPORTED, "make", 0, true).tape("f").is(Due.UNSUPPORTED, "make", 0, true).tape("g").is(Due.UNSUPPORTED, "make", 1, false);
        u.tape("dd").is(5, "make", 0, true).tape("d\0").is(6, "make", 0, false).tape("g").is(7, "make", 0, false).tape("f").is(2, "remove", 0).tape("f").is(2, "make", 0, true).moment(9);
    }

    private static void makeAll() {
        Due d = Due.edge("Promise 21", "all NUMBERS are used, or NEEDED would be above LIMIT: IndexOutOfBoundsException");
        d.directory("d", 1);
        for (int i = 2; i <= 200; i++) {
            d.tape(i < 47 ? i : i + 1, 1).is(i, "make", 1, i % 2 == 0);
        }
        d.tape("x").is(Due.INDEX, "make", 0, true).tape("d").is(Due.UNSUPPORTED, "make", 0, true).tape("\2").is(Due.UNSUPPORTED, "make", 1, true);
        d.tape("x").is(Due.NONE, "make", 3, true).is(200, "count", 6).moment(200).is(199, "about", 1, 1).is(0, "cut", true, 0, 0).tape("x").is(Due.INDEX, "make", 0, true);
        d.is(1, "count", 9).is(Due.STATE, "mount").is(200, "mount").sound(200).tape("\7").is(7, "remove", 1).tape("x").is(7, "make", 0, true).sound(200);
        // the limit: 63 are left, then none
        Due e = full("Promise 21", "or NEEDED would be above LIMIT: IndexOutOfBoundsException", 63);
        e.tape("xy").is(Due.INDEX, "make", 0, false).tape("xy").is(Due.INDEX, "make", 0, true).is(1, "count", 6).tape("x").is(2, "make", 0, true).needed(16384);
        e.tape("y").is(Due.INDEX, "make", 2, false).tape("x").is(Due.UNSUPPORTED, "make", 0, false).moment(10).sound(2).is(10, "mount").sound(2);
        // what keys need, also those that only a transaction sees, leaves no room
        Due g = full("Promise 21", "or NEEDED would be above LIMIT: IndexOutOfBoundsException", 63 + 25);
        g.commit("k", "").is(0, "begin").commitOut("k").needed(16384 - 63 + 25).tape("x").is(Due.INDEX, "make", 0, false).is(0, "abort", 0).tape("x").is(2, "make", 0, false);
    }

    private static void made() {
        Due d = tree("Promise 21", "A FILE or an empty DIRECTORY with that NAME in dir");
        d.tape("x").is(5, "make", 4, false).tape("y").is(6, "make", 4, true).is(1, "about", 5, 0).is(0, "about", 5, 1).is(4, "about", 5, 2).is(0, "about", 5, 3);
        d.is(2, "about", 6, 0).is(0, "about", 6, 1).is(4, "about", 6, 2).is(Due.NONE, "list", 6, 0).is(5, "list", 4, 0).result("x").is(6, "list", 4, 1).result("y");
        // the number of a file that is gone: nothing of that is left
        d.tape(9, 1000).is(1000, "write", 5, 0).tape("x").is(5, "remove", 4).tape("z").is(5, "make", 0, false).is(0, "about", 5, 1).is(0, "about", 5, 3).is(0, "read", 5, 0, 9);
        d.is(0, "resize", 5, 1000).is(9, "read", 5, 0, 9).result("\0".repeat(9)).is(10, "mount").is(9, "read", 5, 0, 9).result("\0".repeat(9)).sound(6);
        Due e = tree("Promise 21", "it has the least NUMBER that is not used");
        e.tape("g").is(3, "remove", 1).tape("f").is(2, "remove", 0).tape("x").is(2, "make", 0, false).tape("y").is(3, "make", 0, false).tape("z").is(5, "make", 0, false);
        e.tape("x").is(2, "remove", 0).is(10, "mount").tape("w").is(2, "make", 0, true).tape("v").is(6, "make", 2, false).is(Due.NONE, "about", 7, 0);
        Due g = Due.edge("Promise 21", "Answers that");
        g.file("a", 1).directory("b", 2).tape("a").is(1, "remove", 0).tape("c").is(1, "make", 2, true).tape("a").is(3, "make", 1, false).tape("b/c/a").is(3, "find");
    }

    // ---- 22: remove ----

    private static void remove() {
        Due t = tree("Promise 22", "The TAPE: a NAME");
        t.is(Due.ARGUMENT, "remove", 0).tape("d/g").is(Due.ARGUMENT, "remove", 0).is(0, "end", 0).tape("n".repeat(31)).is(Due.ARGUMENT, "remove", 0).is(30, "end", 30).is(Due.NONE, "remove", 0);
        t.tape(NAME_30).is(5, "make", 0, true).tape(NAME_30).is(5, "remove", 0);
        Due n = tree("Promise 22", "dir is no DIRECTORY, or has no such NAME: NoSuchElementException");
        n.tape("f").is(Due.NONE, "remove", 2).tape("f").is(Due.NONE, "remove", 5).tape("f").is(Due.NONE, "remove", 1).tape("g").is(Due.NONE, "remove", 0).tape("ff").is(Due.NONE, "remove", 0);
        n.tape("f\0").is(Due.NONE, "remove", 0).tape("f").is(2, "remove", 0).tape("f").is(Due.NONE, "remove", 0).tape("f").is(Due.NONE, "remove", 2).moment(5).is(3, "count", 6);
        Due u = tree("Promise 22", "that is a DIRECTORY with NAMES in it: UnsupportedOperationException");
        u.tape("d").is(Due.UNSUPPORTED, "remove", 0).tape("g").is(3, "remove", 1).tape("d").is(Due.UNSUPPORTED, "remove", 0).tape("e").is(4, "remove", 1).tape("d").is(1, "remove", 0).moment(7);
        Due g = tree("Promise 22", "It is gone");
        g.tape(1, 2000).is(2000, "write", 3, 0).is(4 * 63 + 2000 + 4 * 27, "count", 3).tape("g").is(3, "remove", 1).needed(3 * 63).is(Due.NONE, "about", 3, 0).is(Due.NONE, "read", 3, 0, 9);
        g.tape("x").is(Due.NONE, "write", 3, 0).is(Due.NONE, "resize", 3, 0).tape("d/g").is(Due.NONE, "find").is(1, "about", 1, 1).is(3, "count", 6).is(6, "mount").is(Due.NONE, "about", 3, 0).sound(3);
        // with as many pieces as there can be: 31 kept ones in the full store, each of one byte at least
        Due h = full("Promise 22", "It is gone", 0);
        h.is(31, "about", 1, 3).tape("f").is(1, "remove", 0).needed(0).is(0, "count", 6).sound(0).is(10, "mount").needed(0).sound(0);
        Due a = tree("Promise 22", "Answers the NUMBER that it had");
        a.tape("e").is(4, "remove", 1).tape("g").is(3, "remove", 1).tape("f").is(2, "remove", 0).tape("d").is(1, "remove", 0).needed(0).sound(0);
    }

    // ---- 23: rename ----

    private static void renameForms() {
        Due t = tree("Promise 23", "The TAPE: a NAME, its first k bytes, and a new NAME");
        t.is(Due.ARGUMENT, "rename", 0, 0, 0).is(Due.ARGUMENT, "rename", 0, 0, 1).tape("f").is(Due.ARGUMENT, "rename", 0, 0, 1).is(Due.ARGUMENT, "rename", 0, 0, 0);
        t.tape("x").is(Due.ARGUMENT, "rename", 0, 0, 2).is(Due.ARGUMENT, "rename", 0, 0, 3).is(Due.ARGUMENT, "rename", 0, 0, -1).is(Due.ARGUMENT, "rename", 0, 0, LEAST);
        t.is(Due.ARGUMENT, "rename", 0, 0, MOST).is(2, "rename", 0, 0, 1).tape("x" + NAME_30).is(2, "rename", 0, 0, 1).tape(NAME_30 + NAME_30.replace('n', 'm')).is(2, "rename", 0, 0, 30);
        t.tape("m".repeat(30) + "m").is(Due.ARGUMENT, "rename", 0, 0, 31).is(2, "rename", 0, 0, 30).tape("m" + "f".repeat(31)).is(Due.ARGUMENT, "rename", 0, 0, 1);
        t.is(31, "end", 31).is(2, "rename", 0, 0, 1).tape("d/").is(Due.ARGUMENT, "rename", 0, 0, 1).is(0, "end", 0).tape("/d").is(Due.ARGUMENT, "rename", 0, 0, 1).is(0, "end", 0);
        t.tape("d" + "x".repeat(29) + "/").is(Due.ARGUMENT, "rename", 0, 0, 1).is(30, "end", 30).is(1, "rename", 0, 0, 1).tape("x".repeat(29)).is(1, "find");
        Due n = tree("Promise 23", "from or to is no DIRECTORY, or from has no such NAME: NoSuchElementException");
        n.tape("fx").is(Due.NONE, "rename", 2, 0, 1).tape("fx").is(Due.NONE, "rename", 0, 2, 1).tape("fx").is(Due.NONE, "rename", 5, 0, 1).tape("fx").is(Due.NONE, "rename", 0, 5, 1);
        n.tape("fx").is(Due.NONE, "rename", 200, 200, 1).tape("xf").is(Due.NONE, "rename", 0, 0, 1).tape("gf").is(Due.NONE, "rename", 0, 0, 1).tape("fx").is(Due.NONE, "rename", 1, 0, 1);
        n.tape("ff").is(Due.NONE, "rename", 1, 1, 1).tape("xx").is(Due.NONE, "rename", 0, 0, 1).moment(4);
    }

    private static void renameOfDirectories() {
        Due d = tree("Promise 23", "a DIRECTORY would come into itself or what is in it");
        d.tape("dx").is(Due.UNSUPPORTED, "rename", 0, 1, 1).tape("dd").is(Due.UNSUPPORTED, "rename", 0, 1, 1).tape("dx").is(Due.UNSUPPORTED, "rename", 0, 4, 1);
        d.tape("ex").is(Due.UNSUPPORTED, "rename", 1, 4, 1).tape("ee").is(Due.UNSUPPORTED, "rename", 1, 4, 1).moment(4).tape("h").is(5, "make", 4, true);
        d.tape("dx").is(Due.UNSUPPORTED, "rename", 0, 5, 1).tape("ex").is(4, "rename", 1, 0, 1).tape("dx").is(1, "rename", 0, 4, 1).is(4, "about", 1, 2).tape("x/x/g").is(3, "find");
        d.tape("xd").is(Due.UNSUPPORTED, "rename", 0, 1, 1).sound(5).is(7, "mount").tape("x/x/g").is(3, "find");
        // a file may come into what stands beside it, however deep
        d.tape("fd").is(2, "rename", 0, 5, 1).tape("x/h/d").is(2, "find");
        Due u = tree("Promise 23", "or to has the new NAME, and that or what is renamed is a DIRECTORY (if they are not the same): UnsupportedOperationException");
        u.tape("fd").is(Due.UNSUPPORTED, "rename", 0, 0, 1).tape("df").is(Due.UNSUPPORTED, "rename", 0, 0, 1).tape("fe").is(Due.UNSUPPORTED, "rename", 0, 1, 1);
        u.tape("eg").is(Due.UNSUPPORTED, "rename", 1, 1, 1).tape("ef").is(Due.UNSUPPORTED, "rename", 1, 0, 1).tape("h").is(5, "make", 0, true).tape("hd").is(Due.UNSUPPORTED, "rename", 0, 0, 1);
        u.tape("he").is(Due.UNSUPPORTED, "rename", 0, 1, 1).tape("ed").is(Due.UNSUPPORTED, "rename", 1, 0, 1).moment(5).tape("hh").is(5, "rename", 0, 1, 1).tape("d/h").is(5, "find").sound(5);
    }

    /** Directories within each other as deep as there are numbers. */
    private static void renameWhatIsDeep() {
        Due d = Due.edge("Promise 23", "a DIRECTORY would come into itself or what is in it");
        for (int i = 1; i <= 200; i++) {
            d.tape("d").is(i, "make", i - 1, true);
        }
        d.tape("dx").is(Due.UNSUPPORTED, "rename", 0, 200, 1).tape("dx").is(Due.UNSUPPORTED, "rename", 198, 200, 1).tape("dx").is(Due.UNSUPPORTED, "rename", 199, 200, 1);
        d.tape("dx").is(200, "rename", 199, 0, 1).tape("dx").is(1, "rename", 0, 200, 1).is(200, "about", 1, 2).sound(200).is(202, "mount").sound(200);
        d.tape("x/x" + "/d".repeat(198)).is(199, "find").tape("xx").is(Due.UNSUPPORTED, "rename", 0, 199, 1);
    }

    private static void renamed() {
        Due d = tree("Promise 23", "It has the new NAME in to");
        d.tape(5, 600).is(600, "write", 2, 0).tape("fh").is(2, "rename", 0, 0, 1).tape("f").is(Due.NONE, "find").tape("h").is(2, "find").tape("hi").is(2, "rename", 0, 4, 1);
        d.tape("d/e/i").is(2, "find").is(4, "about", 2, 2).is(1, "about", 0, 1).is(1, "about", 4, 1).is(600, "about", 2, 1).is(9, "read", 2, 591, 99).result("\5".repeat(9)).moment(7);
        // its own name in another directory; what is in a directory goes with it
        d.tape("ii").is(2, "rename", 4, 0, 1).tape("i").is(2, "find").tape("eq").is(4, "rename", 1, 0, 1).tape("dd").is(1, "rename", 0, 4, 1).tape("q/d/g").is(3, "find").sound(4);
        d.is(10, "mount").tape("q/d/g").is(3, "find").tape("i").is(2, "find").is(9, "read", 2, 591, 99).result("\5".repeat(9)).sound(4);
        Due g = tree("Promise 23", "a FILE that had it is gone");
        g.tape(5, 600).is(600, "write", 2, 0).tape(6, 2000).is(2000, "write", 3, 0).tape("fg").is(2, "rename", 0, 1, 1).is(Due.NONE, "about", 3, 0).is(3, "count", 6).needed(3 * 63 + 600 + 54);
        g.is(600, "about", 2, 1).is(2, "about", 2, 3).tape("d/g").is(2, "find").is(2, "about", 1, 1).tape("x").is(3, "make", 0, false).is(0, "about", 3, 3).sound(4).is(8, "mount").sound(4);
        g.tape("d/g").is(2, "find").is(8, "read", 2, 592, 99).result("\5".repeat(8)).tape("xg").is(3, "rename", 0, 1, 1).is(0, "about", 3, 1).needed(3 * 63).sound(3);
        // the one that goes has as many pieces as there is room for
        Due m = full("Promise 23", "a FILE that had it is gone", 63);
        m.file("x", 2).tape("xf").is(2, "rename", 0, 0, 1).is(Due.NONE, "about", 1, 0).needed(63).is(1, "count", 6).sound(1).is(11, "mount").tape("f").is(2, "find").sound(1);
        Due a = tree("Promise 23", "Answers its NUMBER");
        a.tape("gx").is(3, "rename", 1, 1, 1).tape("xx").is(3, "rename", 1, 1, 1).tape("ee").is(4, "rename", 1, 0, 1).tape("xf").is(3, "rename", 1, 0, 1);
    }

    private static void renameToTheSame() {
        Due d = tree("Promise 23", "(If they are the same, from, to and NAMES, nothing changes, no CUT is met");
        d.is(0, "cut", false, 0, 0).tape("ff").is(2, "rename", 0, 0, 1).tape("dd").is(1, "rename", 0, 0, 1).tape("gg").is(3, "rename", 1, 1, 1).tape("ee").is(4, "rename", 1, 1, 1);
        d.moment(4).is(1, "count", 9).is(0, "count", 7).sound(4).is(1, "cut", true, 0, 0).tape("ff").is(2, "rename", 0, 0, 1).is(1, "count", 9).is(1, "count", 1);
        // the same names in another directory, or another name in the same, is not the same
        d.tape("gg").is(Due.STATE, "rename", 1, 0, 1).is(5, "mount").tape("g").is(3, "find").is(0, "cut", true, 0, 0).tape("gh").is(Due.STATE, "rename", 0, 0, 1).is(6, "mount");
        // also in a full store, where nothing can be longer
        Due f = full("Promise 23", "(If they are the same, from, to and NAMES, nothing changes", 0);
        f.tape("ff").is(1, "rename", 0, 0, 1).moment(9).tape("fx").is(1, "rename", 0, 0, 1).moment(10).needed(16384);
    }

    private static void renameToTheLimit() {
        Due d = full("Promise 23", "NEEDED would be above LIMIT: IndexOutOfBoundsException", 3);
        d.tape("f12345").is(Due.INDEX, "rename", 0, 0, 1).tape("f").is(1, "find").moment(9).tape("f1234").is(1, "rename", 0, 0, 1).needed(16384).tape("123412345").is(Due.INDEX, "rename", 0, 0, 4);
        d.tape("12344321").is(1, "rename", 0, 0, 4).tape("4321x").is(1, "rename", 0, 0, 4).needed(16381).is(0, "cut", false, 0, 0).tape("x12345").is(Due.INDEX, "rename", 0, 0, 1);
        d.is(1, "count", 9).sound(1);
        Due e = full("Promise 23", "NEEDED is that without a FILE that goes", 63 + 92);
        // x and a name of 30: the longer name takes the place of what had it
        e.file("x", 2).file(NAME_30, 3).needed(16384).tape("x" + NAME_30).is(2, "rename", 0, 0, 1).needed(16384 - 63).is(Due.NONE, "about", 3, 0).sound(2);
        e.tape("y").is(3, "make", 0, false).needed(16384).tape("yz1").is(Due.INDEX, "rename", 0, 0, 1).is(3, "count", 6);
        // and whatever transactions see: files are only what they are at present
        e.is(0, "begin").tape("y" + NAME_30).is(3, "rename", 0, 0, 1).needed(16384 - 63).is(2, "count", 6).tape("y").is(2, "make", 0, false).needed(16384);
        e.tape("y").is(2, "remove", 0).needed(16384 - 63).sound(2);
    }

    // ---- 24: find ----

    private static void find() {
        Due d = tree("Promise 24", "The TAPE: NAMES from the ROOT on, each within the one before, with a 47 between them");
        d.tape("d").is(1, "find").tape("f").is(2, "find").tape("d/g").is(3, "find").tape("d/e").is(4, "find").tape(NAME_30).is(5, "make", 4, false).tape("d/e/" + NAME_30).is(5, "find");
        d.tape("e").is(Due.NONE, "find").tape("g/d").is(Due.NONE, "find").tape("d/d").is(Due.NONE, "find").tape("d.g").is(Due.NONE, "find").tape("d\\g").is(Due.NONE, "find");
        // tapes as long as they can be: a path that is there, one that is not, and 2000 bytes of 47
        Due deep = Due.edge("Promise 24", "The TAPE: NAMES from the ROOT on");
        for (int i = 1; i <= 64; i++) {
            deep.tape(NAME_30).is(i, "make", i - 1, true);
        }
        String path = (NAME_30 + "/").repeat(64) + "12345678901234567890";
        deep.tape("1234567890123456").is(65, "make", 64, false).tape(path.substring(0, 2000)).is(65, "find");
        deep.tape(path.substring(0, 1999)).is(Due.NONE, "find").tape(47, 2000).is(Due.NONE, "find").is(0, "count", 7);
        Due n = tree("Promise 24", "nothing for the ROOT");
        n.is(0, "find").tape("x").is(0, "end", 0).is(0, "find");
        Due none = tree("Promise 24", "There is no such, or one of them is empty or too long: NoSuchElementException");
        for (String s : new String[] {"x", "d/x", "f/g", "f/f", "d/g/g", "/", "//", "/d", "d/", "d//g", "d/g/", "//d", "dd", "d\0", "\0", "d/" + "g".repeat(31), "d".repeat(31), "d".repeat(31) + "/g"}) {
            none.tape(s).is(Due.NONE, "find").is(0, "count", 7);
        }
        none.tape("d".repeat(30)).is(Due.NONE, "find").tape(120, 2000).is(Due.NONE, "find").moment(4);
        Due a = tree("Promise 24", "Answers its NUMBER");
        a.tape("d/e").is(4, "find").tape("d/e").is(4, "find").tape("g").is(3, "remove", 1).tape("d/g").is(Due.NONE, "find").is(0, "find");
    }

    // ---- 25: write ----

    private static void write() {
        Due t = tree("Promise 25", "The TAPE: 1 .. 2000 bytes");
        t.is(Due.ARGUMENT, "write", 2, 0).tape("a").is(1, "write", 2, 0).tape(7, 2000).is(2000, "write", 2, 0).is(1000, "read", 2, 1000, 1000).result("\7".repeat(1000));
        Due p = tree("Promise 25", "at 0 or more, and with them at most 16384");
        p.tape("a").is(Due.ARGUMENT, "write", 2, -1).is(Due.ARGUMENT, "write", 2, 16384).is(Due.ARGUMENT, "write", 2, LEAST).is(Due.ARGUMENT, "write", 2, MOST).is(16384, "write", 2, 16383);
        p.tape(1, 2000).is(Due.ARGUMENT, "write", 2, 14385).is(Due.ARGUMENT, "write", 2, MOST - 1999).is(16384, "write", 2, 14384).tape(2, 2000).is(16384, "write", 2, 0).is(8, "about", 2, 3);
        Due n = tree("Promise 25", "file is no FILE: NoSuchElementException");
        n.tape("a").is(Due.NONE, "write", 0, 0).tape("a").is(Due.NONE, "write", 1, 0).tape("a").is(Due.NONE, "write", 5, 16383).tape("a").is(Due.NONE, "write", 200, 0).tape("f").is(2, "remove", 0);
        n.tape("a").is(Due.NONE, "write", 2, 0).moment(5);
        Due b = tree("Promise 25", "These are its bytes from at on");
        b.tape("abcdef").is(516, "write", 2, 510).is(7, "read", 2, 509, 9).result("\0abcdef").tape("XY").is(516, "write", 2, 511).is(7, "read", 2, 509, 9);
        b.result("\0aXYdef").commit("k".repeat(40), "v").is(7, "read", 2, 509, 9).result("\0aXYdef").tape("12").is(2, "write", 3, 0).is(2, "read", 3, 0, 9).result("12").is(7, "read", 2, 509, 9).result("\0aXYdef");
    }

    private static void writeSizes() {
        Due s = tree("Promise 25", "its SIZE is at least as far");
        s.tape("abc").is(3, "write", 2, 0).tape("d").is(3, "write", 2, 2).is(3, "about", 2, 1).tape("d").is(4, "write", 2, 3).tape("d").is(6, "write", 2, 5).is(6, "read", 2, 0, 9).result("abdd\0d");
        s.is(6, "resize", 2, 1000).tape("d").is(1000, "write", 2, 10).tape("d").is(1000, "write", 2, 999).tape("d").is(1001, "write", 2, 1000).is(1001, "about", 2, 1).is(12, "mount").is(1001, "about", 2, 1);
        Due a = tree("Promise 25", "Answers its SIZE");
        a.tape("abc").is(12, "write", 2, 9).tape("abc").is(12, "write", 2, 0).is(12, "resize", 2, 16384).tape("abc").is(16384, "write", 2, 16381);
    }

    private static void writeToTheLimit() {
        Due d = full("Promise 25", "NEEDED would be above LIMIT: IndexOutOfBoundsException", 30);
        // 15454 bytes, the last piece has 94 of them: 30 more fit, and in a new piece 3
        d.tape("a".repeat(31)).is(Due.INDEX, "write", 1, 15454).is(15454, "about", 1, 1).moment(9).tape("aaaa").is(Due.INDEX, "write", 1, 16000).tape("b".repeat(30)).is(15484, "write", 1, 15454);
        d.needed(16384).tape("a").is(Due.INDEX, "write", 1, 15484).tape("c".repeat(2000)).is(15484, "write", 1, 13484).tape("c").is(Due.INDEX, "write", 1, 16383).needed(16384).sound(1);
        d.is(4, "read", 1, 15480, 99).result("cccc").is(11, "mount").needed(16384).is(4, "read", 1, 15480, 99).result("cccc").sound(1);
        Due e = full("Promise 25", "NEEDED would be above LIMIT: IndexOutOfBoundsException", 30);
        e.tape("aaa").is(15875, "write", 1, 15872).needed(16384).tape("a").is(Due.INDEX, "write", 1, 15875).is(15875, "about", 1, 1).tape("b").is(15875, "write", 1, 15872).sound(1);
        e.is(32, "about", 1, 3).tape("f").is(1, "remove", 0).needed(0).sound(0).is(12, "mount").sound(0);
    }

    // ---- 26 and 27: read, resize ----

    private static void read() {
        Due d = tree("Promise 26", "at 0 .. 16384, n 0 .. 1000");
        d.tape("abc").is(3, "write", 2, 0).is(Due.ARGUMENT, "read", 2, -1, 1).is(Due.ARGUMENT, "read", 2, 16385, 1).is(Due.ARGUMENT, "read", 2, 0, -1).is(Due.ARGUMENT, "read", 2, 0, 1001);
        d.is(Due.ARGUMENT, "read", 2, LEAST, 1).is(Due.ARGUMENT, "read", 2, MOST, 1).is(Due.ARGUMENT, "read", 2, 0, LEAST).is(Due.ARGUMENT, "read", 2, 0, MOST).is(Due.ARGUMENT, "read", 2, MOST, MOST);
        d.is(0, "read", 2, 0, 0).is(0, "read", 2, 16384, 0).is(0, "read", 2, 16384, 1000).is(3, "read", 2, 0, 1000).result("abc");
        Due n = tree("Promise 26", "file is no FILE: NoSuchElementException");
        n.is(Due.NONE, "read", 0, 0, 1).is(Due.NONE, "read", 1, 0, 1).is(Due.NONE, "read", 5, 16384, 1000).is(Due.NONE, "read", 200, 0, 0);
        Due e = tree("Promise 26", "Its bytes from at on, n or as many as there are up to its SIZE (none from there on), are the RESULT");
        e.is(0, "read", 2, 0, 1000).result("").tape("abcdef").is(514, "write", 2, 508).is(6, "read", 2, 508, 6).result("abcdef").is(5, "read", 2, 508, 5).result("abcde");
        e.is(6, "read", 2, 508, 7).result("abcdef").is(1, "read", 2, 513, 1000).result("f").is(0, "read", 2, 514, 1000).result("").is(2, "read", 2, 511, 2).result("de").is(0, "read", 2, 511, 0).result("");
        e.is(514, "read", 2, 0, 1000).result("\0".repeat(508) + "abcdef").is(514, "resize", 2, 16384).is(1, "read", 2, 16383, 1000).result("\0").is(0, "read", 2, 16384, 1000).result("");
        Due a = tree("Promise 26", "Answers how many");
        a.tape(1, 1000).is(1000, "write", 2, 0).is(1000, "read", 2, 0, 1000).is(999, "read", 2, 1, 1000).is(999, "read", 2, 0, 999).is(1, "read", 2, 999, 1).is(0, "read", 2, 1000, 1).moment(5);
    }

    private static void resize() {
        Due d = tree("Promise 27", "n 0 .. 16384");
        d.is(Due.ARGUMENT, "resize", 2, -1).is(Due.ARGUMENT, "resize", 2, 16385).is(Due.ARGUMENT, "resize", 2, LEAST).is(Due.ARGUMENT, "resize", 2, MOST).is(0, "resize", 2, 16384).is(16384, "resize", 2, 0);
        Due n = tree("Promise 27", "file is no FILE: NoSuchElementException");
        n.is(Due.NONE, "resize", 0, 0).is(Due.NONE, "resize", 1, 0).is(Due.NONE, "resize", 5, 16384).is(Due.NONE, "resize", 200, 1).moment(4);
        Due s = tree("Promise 27", "Its SIZE is n");
        for (int size : new int[] {1, 511, 512, 513, 16383, 16384, 513, 512, 511, 1, 0}) {
            int was = s.vault.about(2, 1);
            s.is(was, "resize", 2, size).is(size, "about", 2, 1).is(Math.min(size, 1), "read", 2, Math.max(size - 1, 0), 9);
        }
        s.is(15, "mount").is(0, "about", 2, 1);
        // what is before the end stays, in each file its own, with other keys and files in between
        Due k = tree("Promise 27", "Its SIZE is n");
        k.tape("a".repeat(1000)).is(1000, "write", 2, 0).tape("b".repeat(1000)).is(1000, "write", 3, 0).commit("k".repeat(40), "value").is(1000, "resize", 2, 700).tape("c").is(1001, "write", 3, 1000);
        k.commit("l".repeat(39), "value").is(700, "read", 2, 0, 1000).result("a".repeat(700)).is(1001, "resize", 3, 600).is(600, "read", 3, 0, 1000).result("b".repeat(600)).is(2, "about", 3, 3);
        k.is(11, "mount").is(8, "read", 2, 692, 1000).result("a".repeat(8)).is(8, "read", 3, 592, 1000).result("b".repeat(8)).sound(6);
        Due e = tree("Promise 27", "(If it was, nothing changes.)");
        e.tape(1, 600).is(600, "write", 2, 0).is(0, "cut", false, 0, 0).is(600, "resize", 2, 600).is(0, "resize", 3, 0).moment(5).is(1, "count", 9).is(2, "about", 2, 3).is(Due.STATE, "resize", 2, 599).is(5, "mount");
        e.is(600, "about", 2, 1).is(600, "resize", 2, 600).moment(5);
        // also where the store is full: longer needs no more
        Due f = full("Promise 27", "Its SIZE is n", 0);
        f.is(15484, "resize", 1, 16384).needed(16384).is(16384, "resize", 1, 15484).needed(16384).is(15484, "resize", 1, 15483).needed(16383).is(15483, "resize", 1, 0).needed(63).is(0, "about", 1, 3).sound(1);
        Due a = tree("Promise 27", "Answers what it was");
        a.is(0, "resize", 2, 5).is(5, "resize", 2, 7).is(7, "resize", 2, 7).is(7, "resize", 2, 0).is(0, "resize", 2, 0);
    }

    // ---- 28 and 29: list, about ----

    private static void list() {
        Due d = tree("Promise 28", "dir is no DIRECTORY, or has no NAME i, from 0, in their order (none for i below 0): NoSuchElementException");
        d.is(Due.NONE, "list", 2, 0).is(Due.NONE, "list", 5, 0).is(Due.NONE, "list", 200, 0).is(Due.NONE, "list", 4, 0).is(Due.NONE, "list", 0, 2).is(Due.NONE, "list", 0, -1);
        d.is(Due.NONE, "list", 0, LEAST).is(Due.NONE, "list", 0, MOST).is(Due.ARGUMENT, "list", 201, -1).is(1, "list", 0, 0).is(2, "list", 0, 1).is(4, "list", 1, 0).is(3, "list", 1, 1);
        d.tape("fc").is(2, "rename", 0, 0, 1).is(2, "list", 0, 0).is(1, "list", 0, 1).tape("c").is(2, "remove", 0).is(1, "list", 0, 0).is(Due.NONE, "list", 0, 1);
        Due r = tree("Promise 28", "That NAME is the RESULT");
        r.tape(NAME_30).is(5, "make", 4, false).is(5, "list", 4, 0).result(NAME_30).is(1, "list", 0, 0).result("d").is(Due.NONE, "list", 0, 2).result("d").is(3, "list", 1, 1).result("g");
        Due all = Due.edge("Promise 28", "Answers the NUMBER that has it");
        for (int i = 1; i <= 200; i++) {
            // from the last name to the first
            all.tape(i < 154 ? 201 - i : 200 - i, 1).is(i, "make", 0, false);
        }
        for (int i = 0; i < 200; i += 5) {
            all.is(200 - i, "list", 0, i);
        }
        all.is(1, "list", 0, 199).result("\u00c8").is(200, "list", 0, 0).result("\0").is(Due.NONE, "list", 0, 200);
    }

    private static void about() {
        Due n = tree("Promise 29", "There is none of this NUMBER now (0 is always there): NoSuchElementException");
        n.is(Due.NONE, "about", 5, 0).is(Due.NONE, "about", 200, 3).is(2, "about", 0, 0).tape("g").is(3, "remove", 1).is(Due.NONE, "about", 3, 0).is(Due.NONE, "about", 3, 1).is(Due.NONE, "about", 3, 2);
        n.is(Due.NONE, "about", 3, 3).tape("e").is(4, "remove", 1).tape("d").is(1, "remove", 0).tape("f").is(2, "remove", 0).is(2, "about", 0, 0).is(0, "about", 0, 1).is(Due.NONE, "about", 1, 0);
        n.is(8, "mount").is(2, "about", 0, 0).is(Due.NONE, "about", 1, 0);
        Due k = tree("Promise 29", "0: 1 a FILE, 2 a DIRECTORY");
        k.is(2, "about", 0, 0).is(2, "about", 1, 0).is(1, "about", 2, 0).is(1, "about", 3, 0).is(2, "about", 4, 0);
        Due s = tree("Promise 29", "1 SIZE, or how many NAMES are in it");
        s.is(2, "about", 0, 1).is(2, "about", 1, 1).is(0, "about", 2, 1).is(0, "about", 4, 1).is(0, "resize", 2, 16384).is(16384, "about", 2, 1).tape("ge").is(Due.UNSUPPORTED, "rename", 1, 1, 1);
        s.tape("gf").is(3, "rename", 1, 0, 1).is(1, "about", 1, 1).is(2, "about", 0, 1).is(0, "about", 3, 1);
        Due p = tree("Promise 29", "2 the DIRECTORY in which it is (ROOT: 0)");
        p.is(0, "about", 0, 2).is(0, "about", 1, 2).is(0, "about", 2, 2).is(1, "about", 3, 2).is(1, "about", 4, 2).tape("fx").is(2, "rename", 0, 4, 1).is(4, "about", 2, 2).is(5, "mount").is(4, "about", 2, 2);
        Due q = tree("Promise 29", "3 PIECES that are KEPT (0 of a DIRECTORY)");
        q.is(0, "about", 0, 3).is(0, "about", 1, 3).is(0, "about", 2, 3).tape("a").is(16384, "write", 2, 16383).is(1, "about", 2, 3).tape("a").is(16384, "write", 2, 0).is(2, "about", 2, 3);
        for (int piece = 0; piece < 32; piece++) {
            q.tape("b").is(16384, "write", 2, piece * 512);
        }
        q.is(32, "about", 2, 3).needed(4 * 63 + 32 * 28 + 511).is(16384, "resize", 2, 15873).is(32, "about", 2, 3).is(15873, "resize", 2, 15872).is(31, "about", 2, 3).tape("f").is(2, "remove", 0).sound(3);
        Due w = tree("Promise 29", "what 0 .. 3");
        w.is(Due.ARGUMENT, "about", 2, -1).is(Due.ARGUMENT, "about", 2, 4).is(Due.ARGUMENT, "about", 0, 4).is(Due.ARGUMENT, "about", 9, 4).is(Due.ARGUMENT, "about", 2, LEAST).is(Due.ARGUMENT, "about", 2, MOST);
    }

    public static void main(String[] args) {
        make();
        makeAll();
        made();
        remove();
        renameForms();
        renameOfDirectories();
        renameWhatIsDeep();
        renamed();
        renameToTheSame();
        renameToTheLimit();
        find();
        write();
        writeSizes();
        writeToTheLimit();
        read();
        resize();
        list();
        about();
        Due.finish();
    }
}
