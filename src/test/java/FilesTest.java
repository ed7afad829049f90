/** Promises 21 to 29: files and directories. */
public final class FilesTest {
    private static final String LONG_NAME = "n".repeat(30);

    private static void make() {
        Due d = new Due("21 make", 0);
        d.is(Due.ARGUMENT, "make", 0, false).tape("a/b").is(Due.ARGUMENT, "make", 0, false).is(3, "count", 7).is(0, "end", 0);
        d.tape(97, 31).is(Due.ARGUMENT, "make", 0, true).is(30, "end", 30).is(1, "make", 0, true).is(0, "count", 7);
        d.tape("a").is(Due.ARGUMENT, "make", -1, false).is(Due.ARGUMENT, "make", 201, false).is(1, "count", 7);
        d.is(Due.NONE, "make", 200, false).is(0, "count", 7);
        d.tape("a").is(2, "make", 0, false).tape("a").is(Due.UNSUPPORTED, "make", 0, true).is(0, "count", 7);
        d.tape("b").is(Due.NONE, "make", 2, false).tape("a").is(3, "make", 1, false).is(3, "count", 0).is(3, "count", 6);
        d.is(62 + 30 + 63 + 63, "count", 3).is(0, "about", 2, 1).is(0, "about", 2, 3).is(0, "about", 1, 1 + 2);
        // the least number that is not used
        d.tape("a").is(2, "remove", 0).tape("x\u00ff\0").is(2, "make", 1, true).is(1, "about", 2, 2).sound(3);
        d.is(5, "mount").is(2, "about", 1, 1).sound(3);
        d.is(0, "cut", false, 0, 3).tape("y").is(Due.STATE, "make", 0, true).is(Due.ARGUMENT, "make", 0, true);
        d.is(5, "mount").is(3, "count", 6).is(0, "cut", true, 0, 3).tape("y").is(Due.STATE, "make", 0, true);
        d.is(6, "mount").tape("y").is(4, "find").sound(4);
    }

    private static void makeAll() {
        Due d = new Due("21 make all", 2);
        for (int i = 1; i <= 200; i++) {
            d.file("" + (char) (i < 47 ? i : i + 1), i);
        }
        d.tape("xx").is(Due.INDEX, "make", 0, false).is(0, "count", 7).is(200, "about", 0, 1).is(200 * 63, "count", 3);
        d.tape("\u0001").is(Due.UNSUPPORTED, "make", 0, false);
        d.tape("\u0005").is(5, "remove", 0).tape("xx").is(5, "make", 0, true).is(200, "count", 6).sound(200).is(202, "mount").sound(200);
        // above the limit: 16384 of them are 178 of 92
        Due e = new Due("21 make to the limit", 0);
        for (int i = 1; i <= 178; i++) {
            e.file("n".repeat(29) + (char) (i < 47 ? i : i + 1), i);
        }
        e.is(16376, "count", 3).tape("x").is(Due.INDEX, "make", 0, false).is(178, "count", 6).is(178, "count", 0).sound(178);
        e.is(0, "cut", false, 0, 0).tape("x").is(Due.INDEX, "make", 0, false).is(1, "count", 9);
    }

    private static void remove() {
        Due d = new Due("22 remove", 0);
        d.directory("d", 1).tape("f").is(2, "make", 1, false).tape(7, 2000).is(3000, "write", 2, 1000);
        d.is(Due.ARGUMENT, "remove", 0).tape("d").is(Due.ARGUMENT, "remove", 201).is(Due.ARGUMENT, "remove", -1).is(1, "count", 7);
        d.is(Due.UNSUPPORTED, "remove", 0).is(0, "count", 7).tape("e").is(Due.NONE, "remove", 0).tape("d").is(Due.NONE, "remove", 2);
        d.tape("d").is(Due.NONE, "remove", 3).tape("d/f").is(Due.ARGUMENT, "remove", 0).is(0, "end", 0).is(3, "count", 0);
        d.tape("f").is(2, "remove", 1).is(4, "count", 0).is(63, "count", 3).is(Due.NONE, "about", 2, 0);
        // the number anew: none of its bytes are left
        d.tape("g").is(2, "make", 0, false).is(0, "about", 2, 1).is(0, "about", 2, 3).is(0, "resize", 2, 3000);
        d.is(1000, "read", 2, 1000, 1000).result("\0".repeat(1000)).is(0, "about", 2, 3);
        d.is(6, "mount").is(1000, "read", 2, 1000, 1000).result("\0".repeat(1000)).is(0, "about", 2, 3);
        d.tape("d").is(1, "remove", 0).tape("g").is(2, "remove", 0).is(0, "count", 3).sound(0).is(8, "mount").sound(0);
    }

    private static void rename() {
        Due d = new Due("23 rename", 0);
        d.directory("d", 1).file("f", 2).tape("e").is(3, "make", 1, true).tape("g").is(4, "make", 3, false);
        d.tape("fh").is(Due.ARGUMENT, "rename", 0, 201, 1).is(Due.ARGUMENT, "rename", -1, 0, 1).is(Due.ARGUMENT, "rename", 0, 0, 0);
        d.is(Due.ARGUMENT, "rename", 0, 0, 2).is(Due.ARGUMENT, "rename", 0, 0, 3).is(2, "count", 7).is(1, "end", 1).is(Due.ARGUMENT, "rename", 0, 0, 1);
        d.is(0, "end", 0).tape("f/").is(Due.ARGUMENT, "rename", 0, 0, 1).is(0, "end", 0).tape("/f").is(Due.ARGUMENT, "rename", 0, 0, 1).is(0, "end", 0);
        d.tape(97, 32).is(Due.ARGUMENT, "rename", 0, 0, 31).is(Due.ARGUMENT, "rename", 0, 0, 1).is(Due.NONE, "rename", 0, 0, 2).is(0, "count", 7);
        d.tape("fh").is(Due.NONE, "rename", 2, 0, 1).tape("fh").is(Due.NONE, "rename", 0, 2, 1).tape("fh").is(Due.NONE, "rename", 0, 9, 1);
        d.tape("hf").is(Due.NONE, "rename", 0, 0, 1).is(4, "count", 0);
        // into itself, into what is in it, onto a directory, a directory onto a file
        d.tape("dd").is(Due.UNSUPPORTED, "rename", 0, 1, 1).tape("dx").is(Due.UNSUPPORTED, "rename", 0, 3, 1);
        d.tape("fd").is(Due.UNSUPPORTED, "rename", 0, 0, 1).tape("df").is(Due.UNSUPPORTED, "rename", 0, 0, 1).is(4, "count", 0);
        // the same: nothing changes, no cut is met
        d.is(0, "cut", false, 0, 0).tape("ff").is(2, "rename", 0, 0, 1).tape("dd").is(1, "rename", 0, 0, 1).is(1, "count", 9).is(4, "count", 0);
        d.is(1, "cut", true, 0, 0).is(Due.STATE, "flush").is(4, "mount");
        // a new name, another directory with the same name, a file in place of a file
        d.tape("fh").is(2, "rename", 0, 0, 1).is(5, "count", 0).tape("hh").is(2, "rename", 0, 3, 1).is(3, "about", 2, 2);
        d.tape(1, 600).is(600, "write", 2, 0).tape(2, 600).is(600, "write", 4, 0).is(8, "count", 0);
        d.is(63 * 4 + (27 + 512 + 27 + 88) * 2, "count", 3).tape("hg").is(2, "rename", 3, 3, 1).is(Due.NONE, "about", 4, 0);
        d.is(63 * 3 + 27 + 512 + 27 + 88, "count", 3).is(600, "read", 2, 0, 600).result("\u0001".repeat(600)).sound(3);
        d.tape("e" + LONG_NAME).is(3, "rename", 1, 0, 1).tape("d" + LONG_NAME).is(1, "rename", 0, 3, 1).is(3, "about", 1, 2).is(11, "count", 0);
        d.tape(LONG_NAME + "/" + LONG_NAME).is(1, "find").tape(LONG_NAME + "/g").is(2, "find").is(11, "mount").sound(3);
        d.tape(LONG_NAME + "/g").is(2, "find").is(600, "read", 2, 0, 600).result("\u0001".repeat(600));
    }

    private static void renameToTheLimit() {
        Due d = new Due("23 rename to the limit", 0);
        for (int i = 1; i <= 178; i++) {
            d.file("n".repeat(29) + (char) (i < 47 ? i : i + 1), i);
        }
        String first = "n".repeat(29) + "\u0001";
        d.tape(first + "m").is(1, "rename", 0, 0, 30).is(16376 - 29, "count", 3).tape("0123456").is(7, "write", 1, 0);
        d.is(16376 - 29 + 34, "count", 3).tape("mabcd").is(1, "rename", 0, 0, 1).is(16384, "count", 3);
        d.tape("abcdefghi").is(Due.INDEX, "rename", 0, 0, 4).is(1, "about", 1, 0).is(181, "count", 0);
        // with a file that goes there is room
        d.tape("abcd" + "n".repeat(29) + "\u0002").is(1, "rename", 0, 0, 4).is(16384 - 62 - 4, "count", 3).sound(177);
    }

    private static void find() {
        Due d = new Due("24 find", 0);
        d.is(0, "find").directory("d", 1).tape("e").is(2, "make", 1, true).tape("f").is(3, "make", 2, false);
        d.tape("d").is(1, "find").tape("d/e").is(2, "find").tape("d/e/f").is(3, "find").is(0, "count", 7);
        String[] none = {"/", "/d", "d/", "d//e", "d/e/", "e", "d/f", "d/e/f/", "d/e/f/f", "//", "x/d", "d".repeat(31), "d/" + "e".repeat(31)};
        for (String path : none) {
            d.tape(path).is(Due.NONE, "find").is(0, "count", 7);
        }
        d.tape(47, 2000).is(Due.NONE, "find").is(0, "count", 7).tape(100, 2000).is(Due.NONE, "find");
        d.is(0, "cut", true, 0, 0).is(Due.STATE, "flush").is(Due.STATE, "find").is(3, "mount").tape("d/e/f").is(3, "find");
    }

    private static void write() {
        Due d = new Due("25 write", 0);
        d.file("f", 1).directory("d", 2).is(Due.ARGUMENT, "write", 1, 0);
        d.tape("abc").is(Due.ARGUMENT, "write", 201, 0).is(Due.ARGUMENT, "write", -1, 0).is(Due.ARGUMENT, "write", 1, -1);
        d.is(Due.ARGUMENT, "write", 1, 16382).is(Due.ARGUMENT, "write", 1, Integer.MAX_VALUE).is(3, "count", 7);
        d.is(Due.NONE, "write", 0, 0).is(0, "count", 7).tape("abc").is(Due.NONE, "write", 2, 0).tape("abc").is(Due.NONE, "write", 3, 0);
        d.is(2, "count", 0).tape("abc").is(16384, "write", 1, 16381).is(1, "about", 1, 3).is(63 + 63 + 27 + 512, "count", 3).is(3, "count", 0);
        d.tape("xyz").is(16384, "write", 1, 510).is(3, "about", 1, 3).is(63 + 63 + 27 * 3 + 512 * 2 + 1, "count", 3);
        d.is(6, "read", 1, 509, 6).result("\0xyz\0\0").is(4, "read", 1, 16380, 1000).result("\0abc");
        // over what is there: neither longer nor heavier, but a moment
        d.tape("b").is(16384, "write", 1, 511).is(5, "count", 0).is(6, "read", 1, 509, 6).result("\0xbz\0\0").is(63 + 63 + 27 * 3 + 512 * 2 + 1, "count", 3);
        d.tape(9, 2000).is(16384, "write", 1, 1).is(5, "about", 1, 3).is(3, "read", 1, 1999, 3).result("\t\t\0");
        d.is(6, "mount").is(3, "read", 1, 1999, 3).result("\t\t\0").is(3, "read", 1, 0, 3).result("\0\t\t").sound(2);
    }

    private static void writeToTheLimit() {
        Due d = new Due("25 write to the limit", 0);
        d.file("f", 1);
        for (int at = 0; at < 14000; at += 2000) {
            d.tape(255, 2000).is(at + 2000, "write", 1, at);
        }
        // 63, 28 pieces: 14000 and 28 * 27
        d.is(63 + 14000 + 756, "count", 3).tape(255, 1540).is(Due.INDEX, "write", 1, 14000).is(14000, "about", 1, 1).is(8, "count", 0);
        d.tape(255, 1484).is(15484, "write", 1, 14000).is(63 + 15484 + 31 * 27, "count", 3).is(16384, "count", 3);
        d.tape("x").is(Due.INDEX, "write", 1, 15484).tape("x").is(15484, "write", 1, 15483).is(31, "about", 1, 3).sound(1);
        d.is(0, "cut", false, 3, 100).tape(1, 2000).is(Due.STATE, "write", 1, 3000).is(10, "mount");
        d.is(2, "read", 1, 15482, 10).result("\u00ffx").is(3, "read", 1, 3000, 3).result("\u00ff\u00ff\u00ff").sound(1);
    }

    private static void read() {
        Due d = new Due("26 read", 0);
        d.file("f", 1).directory("d", 2).is(0, "read", 1, 0, 1000).result("").tape("hello").is(6, "write", 1, 1);
        d.is(Due.ARGUMENT, "read", 201, 0, 1).is(Due.ARGUMENT, "read", -1, 0, 1).is(Due.ARGUMENT, "read", 1, -1, 1);
        d.is(Due.ARGUMENT, "read", 1, 16385, 1).is(Due.ARGUMENT, "read", 1, 0, -1).is(Due.ARGUMENT, "read", 1, 0, 1001);
        d.is(6, "read", 1, 0, 1000).result("\0hello").is(Due.NONE, "read", 0, 0, 1).is(Due.NONE, "read", 2, 0, 1).is(Due.NONE, "read", 3, 0, 1);
        d.is(6, "count", 8).is(2, "read", 1, 2, 2).result("el").is(0, "read", 1, 2, 0).result("").is(1, "read", 1, 5, 9).result("o");
        d.is(0, "read", 1, 6, 9).result("").is(0, "read", 1, 16384, 1000).result("").is(3, "count", 0);
        d.is(0, "cut", true, 0, 0).is(Due.STATE, "flush").is(Due.STATE, "read", 1, 0, 1).is(Due.ARGUMENT, "read", 1, 0, 1001);
    }

    private static void resize() {
        Due d = new Due("27 resize", 0);
        d.file("f", 1).directory("d", 2).is(Due.ARGUMENT, "resize", 1, -1).is(Due.ARGUMENT, "resize", 1, 16385);
        d.is(Due.ARGUMENT, "resize", 201, 0).is(Due.ARGUMENT, "resize", -1, 0).is(Due.NONE, "resize", 0, 0).is(Due.NONE, "resize", 2, 0).is(Due.NONE, "resize", 3, 0);
        // the same size changes nothing and meets no cut
        d.is(0, "cut", false, 0, 0).is(0, "resize", 1, 0).is(1, "count", 9).is(2, "count", 0).is(Due.STATE, "flush").is(2, "mount");
        d.is(0, "resize", 1, 16384).is(16384, "about", 1, 1).is(0, "about", 1, 3).is(126, "count", 3).is(3, "count", 0);
        d.tape(65, 1100).is(16384, "write", 1, 0).is(126 + 1100 + 3 * 27, "count", 3);
        d.is(16384, "resize", 1, 1024).is(2, "about", 1, 3).is(126 + 1024 + 2 * 27, "count", 3);
        d.is(1024, "resize", 1, 513).is(126 + 513 + 2 * 27, "count", 3).is(513, "resize", 1, 512).is(1, "about", 1, 3);
        d.is(512, "resize", 1, 3).is(126 + 3 + 27, "count", 3).is(3, "resize", 1, 2000).is(126 + 3 + 27, "count", 3);
        d.is(10, "read", 1, 0, 10).result("AAA" + "\0".repeat(7)).is(10, "read", 1, 508, 10).result("\0".repeat(10));
        // what was behind counts as never written, also where a byte is written behind it
        d.tape("z").is(2000, "write", 1, 6).is(8, "read", 1, 0, 8).result("AAA\0\0\0z\0").is(126 + 7 + 27, "count", 3);
        d.is(10, "mount").is(8, "read", 1, 0, 8).result("AAA\0\0\0z\0").is(2000, "resize", 1, 0).is(126, "count", 3).is(0, "about", 1, 3).sound(2);
        // cut within what is kept though no byte before was written
        d.tape("q").is(301, "write", 1, 300).is(301, "resize", 1, 100).is(126 + 27 + 100, "count", 3).is(1, "about", 1, 3).sound(2);
        d.is(0, "cut", false, 1, 9).is(Due.STATE, "resize", 1, 5).is(13, "mount").is(100, "about", 1, 1).is(126 + 127, "count", 3);
        d.is(0, "cut", true, 1, 9).is(Due.STATE, "resize", 1, 5).is(14, "mount").is(5, "about", 1, 1).is(126 + 32, "count", 3).sound(2);
    }

    private static void list() {
        Due d = new Due("28 list", 0);
        d.is(Due.NONE, "list", 0, 0).directory("b", 1).file("\u00ff", 2).file("ba", 3).file("\0", 4).file("b\0", 5).file("B", 6);
        d.tape("in").is(7, "make", 1, false);
        int[] order = {4, 6, 1, 5, 3, 2};
        String[] names = {"\0", "B", "b", "b\0", "ba", "\u00ff"};
        for (int i = 0; i < 6; i++) {
            d.is(order[i], "list", 0, i).result(names[i]);
        }
        d.is(Due.NONE, "list", 0, 6).is(Due.NONE, "list", 0, -1).is(Due.NONE, "list", 0, Integer.MIN_VALUE).is(Due.NONE, "list", 0, Integer.MAX_VALUE);
        d.is(1, "count", 8).is(Due.NONE, "list", 2, 0).is(Due.NONE, "list", 9, 0).is(7, "list", 1, 0).result("in").is(Due.NONE, "list", 1, 1);
        d.is(Due.ARGUMENT, "list", 201, 0).is(Due.ARGUMENT, "list", -1, 0).is(2, "count", 8).is(7, "mount");
        for (int i = 0; i < 6; i++) {
            d.is(order[i], "list", 0, i).result(names[i]);
        }
        d.is(0, "cut", true, 0, 0).is(Due.STATE, "flush").is(Due.STATE, "list", 0, 0).is(Due.ARGUMENT, "list", 201, 0);
    }

    private static void about() {
        Due d = new Due("29 about", 0);
        d.directory("d", 1).tape("f").is(2, "make", 1, false).tape(5, 513).is(513, "write", 2, 0);
        int[][] due = {{2, 1, 0, 0}, {2, 1, 0, 0}, {1, 513, 1, 2}};
        for (int round = 0; round < 2; round++) {
            for (int number = 0; number < 3; number++) {
                for (int what = 0; what < 4; what++) {
                    d.is(due[number][what], "about", number, what);
                }
            }
            d.is(3, "mount");
        }
        d.is(Due.NONE, "about", 3, 0).is(Due.NONE, "about", 200, 3).is(Due.ARGUMENT, "about", 201, 0).is(Due.ARGUMENT, "about", -1, 0);
        d.is(Due.ARGUMENT, "about", 2, 4).is(Due.ARGUMENT, "about", 2, -1).is(Due.ARGUMENT, "about", 3, 4);
        d.is(0, "cut", true, 0, 0).is(Due.STATE, "flush").is(Due.STATE, "about", 0, 0).is(Due.ARGUMENT, "about", 0, 4);
    }

    public static void main(String[] args) {
        make();
        makeAll();
        remove();
        rename();
        renameToTheLimit();
        find();
        write();
        writeToTheLimit();
        read();
        resize();
        list();
        about();
        Due.finish();
    }
}
