/** Promises 12 to 16, 19 and 20: the care of the chip, the power, what the watch found. */
public final class CareTest {
    private static Due loaded(String title) {
        Due d = new Due(title, 0);
        for (int i = 0; i < 30; i++) {
            d.commit("k" + i % 7, ("" + i % 10).repeat(300 + i));
        }
        return d.file("f", 1).tape(3, 2000).is(2500, "write", 1, 500);
    }

    /** What is loaded: k0 to k6, the last of each of the 30. */
    private static void holds(Due d) {
        d.is(0, "begin");
        for (int i = 23; i < 30; i++) {
            d.has(0, "k" + i % 7, ("" + i % 10).repeat(300 + i));
        }
        d.is(0, "abort", 0).is(1000, "read", 1, 1000, 1000).result("\u0003".repeat(1000)).sound(8);
    }

    private static final int NEEDED = 7 * 26 + 7 * 300 + 23 + 24 + 25 + 26 + 27 + 28 + 29 + 63 + 5 * 27 + 2500;

    private static void care() {
        String[] calls = {"flush", "compact", "compact", "collect"};
        Object[][] arguments = {{}, {false}, {true}, {}};
        for (int i = 0; i < calls.length; i++) {
            Due d = loaded((12 + i) + " " + calls[i]);
            d.is(NEEDED, "count", 3).tape("tape");
            for (int round = 0; round < 12; round++) {
                d.is(NEEDED, calls[i], arguments[i]).is(4, "count", 7).sound(8);
            }
            d.is(0, "end", 0).is(32, "count", 0);
            holds(d);
            d.is(32, "mount").is(NEEDED, "count", 3);
            holds(d);
            // an open transaction goes on seeing its moment, and what it sees is needed
            d.is(0, "begin").commit("k1", "new").is(NEEDED + 29, "count", 3);
            for (int round = 0; round < 12; round++) {
                d.is(NEEDED + 29, calls[i], arguments[i]).sound(8);
            }
            d.has(0, "k1", "9".repeat(329)).is(0, "abort", 0).is(NEEDED + 29 - 26 - 329, calls[i], arguments[i]);
            // each meets the cut
            d.is(0, "cut", i % 2 == 0, 0, 0).is(Due.STATE, calls[i], arguments[i]).is(0, "count", 9);
            d.is(Due.STATE, calls[i], arguments[i]).is(33, "mount").is(NEEDED + 29 - 26 - 329, "count", 3).sound(8);
        }
    }

    private static void together() {
        Due d = loaded("12 to 14");
        for (int round = 0; round < 10; round++) {
            d.is(NEEDED, "flush").is(NEEDED, "collect").is(NEEDED, "compact", false).is(NEEDED, "collect").is(NEEDED, "compact", true);
            d.is(32, "mount");
            holds(d);
        }
        Due e = new Due("12 to 14, nothing there", 2);
        e.is(0, "flush").is(0, "compact", true).is(0, "compact", false).is(0, "collect").is(0, "mount").sound(0);
    }

    private static void cut() {
        Due d = new Due("15 cut", 0);
        d.is(Due.ARGUMENT, "cut", false, -1, 0).is(Due.ARGUMENT, "cut", true, 0, -1).is(0, "count", 9);
        d.is(0, "cut", false, 0, 0).is(1, "cut", false, Integer.MAX_VALUE, Integer.MAX_VALUE).is(1, "count", 9);
        // what does not write, or is refused, does not meet it
        d.is(0, "begin").tape("a1").is(1, "put", 0, 1).has(0, "a", "1").is(1, "abort", 0).is(0, "check").is(0, "count", 0);
        d.tape("f").is(Due.NONE, "make", 1, false).tape("f").is(Due.NONE, "remove", 0).is(1, "count", 9);
        d.commitNot("a").is(0, "count", 9).is(0, "count", 1).is(0, "cut", false, 3, 3).is(1, "count", 9).is(1, "cut", false, 3, 3);
        d.is(Due.STATE, "mount").is(0, "count", 9).is(0, "mount").is(0, "count", 5).sound(0);
        // in its place: late, so it is done
        d.is(0, "cut", false, 0, 0).is(1, "cut", true, 0, 0).commitNot("b").is(1, "mount").is(1, "count", 5).is(0, "begin").has(0, "b", "v");
        d.is(0, "cut", true, 0, 0).is(1, "cut", false, 0, 0).commitNot("c").is(1, "mount").is(1, "count", 5).sound(1);
    }

    private static void mount() {
        Due d = loaded("16 mount");
        d.is(0, "begin").is(1, "begin").tape("k1").is(329, "get", 1).tape("tape");
        d.is(32, "mount").is(0, "count", 2).is(0, "count", 7).is(0, "count", 8).is(1, "count", 1).is(Due.NONE, "abort", 0);
        holds(d);
        for (int n = 0; n < 9; n++) {
            d.is(0, "cut", n % 3 == 0, n, n * 5).is(Due.STATE, "mount").is(0, "count", 1).is(0, "count", 9).is(Due.STATE, "count", 0);
        }
        d.is(32, "mount");
        holds(d);
        d.commit("z", "").is(33, "count", 0).is(33, "mount").is(33, "mount").is(NEEDED + 25, "count", 3);
    }

    private static void faultsAndCheck() {
        Due d = new Due("19, 20", 0);
        d.is(Due.ARGUMENT, "faults", -1).is(Due.ARGUMENT, "faults", 6).commit("a", "1").file("f", 1).sound(2);
        d.is(0, "cut", false, 0, 0).is(Due.STATE, "flush").is(Due.STATE, "check").is(Due.ARGUMENT, "faults", 6);
        for (int what = 0; what <= 5; what++) {
            d.is(0, "faults", what);
        }
        d.is(2, "mount").sound(2);
    }

    public static void main(String[] args) {
        care();
        together();
        cut();
        mount();
        faultsAndCheck();
        Due.finish();
    }
}
