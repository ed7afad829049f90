/** The boundary cases of 'Terms' about the power, and about what is thrown, in which order, and what stays then. */
public final class EdgePowerTest {
    private static final String TERMS = "Terms";

    /** A call, what it finds on the tape, and what it answers or throws. */
    private record Case(Object due, String tape, String name, Object... arguments) {
        Due on(Due d) {
            return d.tape(tape).is(due, name, arguments);
        }
    }

    private static Case of(Object due, String tape, String name, Object... arguments) {
        return new Case(due, tape, name, arguments);
    }

    private static Due based(String place, String words) {
        Due d = Due.edge(place, words);
        Stays.base(d.vault);
        return d;
    }

    // ---- power ----

    /** Calls that change keys or files; the answer is that without a cut. */
    private static final Case[] CHANGES = {
        of(8, "", "commit", 0), of(5, "n", "make", 0, true), of(5, "n", "make", 1, false), of(3, "g", "remove", 1),
        of(4, "e", "remove", 1), of(2, "fh", "rename", 0, 0, 1), of(2, "fg", "rename", 0, 1, 1), of(1, "dh", "rename", 0, 0, 1),
        of(1200, "z".repeat(700), "write", 2, 500), of(700, "x", "write", 2, 100), of(1, "z", "write", 3, 0),
        of(700, "", "resize", 2, 50), of(700, "", "resize", 2, 0), of(700, "", "resize", 2, 16384), of(0, "", "resize", 3, 1),
    };

    private static final Case[] CARES = {
        of(1062, "", "flush"), of(1062, "", "compact", false), of(1062, "", "compact", true), of(1062, "", "collect"), of(7, "", "mount"),
    };

    /** Calls that write nothing, in whatever they do. */
    private static final Case[] NO_WRITES = {
        of(7, "", "commit", 1), of(2, "", "begin"), of(0, "", "abort", 1), of(3, "", "abort", 0), of(4, "ev", "put", 0, 1),
        of(1, "a", "delete", 1), of(3, "a", "get", 0), of(-1, "q", "get", 1), of(1, "", "seek", 1, false), of(20, "", "feed", 1, 2, 3, 4, 5),
        of(7, "", "fill", 1, 7), of(0, "", "end", 0), of(2, "ff", "rename", 0, 0, 1), of(1, "dd", "rename", 0, 0, 1),
        of(700, "", "resize", 2, 700), of(0, "", "resize", 3, 0), of(3, "d/g", "find"), of(9, "", "read", 2, 95, 9), of(1, "", "list", 0, 0),
        of(2, "", "about", 0, 0), of(6, "", "check"), of(1062, "", "count", 3), of(0, "", "faults", 0), of(0x6f6e650000000000L, "", "word", 0),
    };

    /** Calls that would write, and are refused otherwise. */
    private static final Case[] REFUSED = {
        of(Due.ARGUMENT, "", "commit", 8), of(Due.NONE, "", "commit", 2), of(Due.ARGUMENT, "", "make", 0, true), of(Due.NONE, "n", "make", 2, true),
        of(Due.UNSUPPORTED, "d", "make", 0, true), of(Due.NONE, "n", "remove", 0), of(Due.UNSUPPORTED, "d", "remove", 0),
        of(Due.ARGUMENT, "f", "rename", 0, 0, 1), of(Due.NONE, "nf", "rename", 0, 0, 1), of(Due.UNSUPPORTED, "df", "rename", 0, 0, 1),
        of(Due.UNSUPPORTED, "dx", "rename", 0, 1, 1), of(Due.ARGUMENT, "", "write", 2, 0), of(Due.NONE, "x", "write", 1, 0),
        of(Due.ARGUMENT, "", "resize", 2, 16385), of(Due.NONE, "", "resize", 1, 0),
    };

    private static void upAndDown() {
        Due d = Due.edge(TERMS, "The store is UP (at first) or DOWN");
        d.is(1, "count", 1).is(0, "cut", true, 0, 0).is(1, "count", 1).is(Due.STATE, "mount").is(0, "count", 1).is(Due.STATE, "flush");
        d.is(0, "count", 1).is(0, "mount").is(1, "count", 1).is(0, "mount").is(1, "count", 1);
        Due e = Due.edge(TERMS, "A CUT may wait, LATE or not");
        e.is(0, "count", 9).is(0, "cut", false, 0, 0).is(1, "count", 9).is(1, "cut", true, 0, 0).is(1, "count", 9).is(0, "begin").is(0, "abort", 0);
        e.is(1, "count", 9).is(Due.STATE, "flush").is(0, "count", 9).is(0, "cut", false, 0, 0).is(1, "count", 9).is(Due.STATE, "flush");
        e.is(1, "count", 9).is(Due.STATE, "mount").is(0, "count", 9).is(0, "mount").is(0, "flush");
    }

    private static void whichCallsMeetIt() {
        for (Case c : NO_WRITES) {
            Due d = based(TERMS, "The next call that WRITES (commit with WRITES, and a call on files that changes something");
            d.is(0, "cut", false, 0, 0);
            c.on(d).is(1, "count", 9).is(1, "count", 1).is(Due.STATE, "flush").is(0, "count", 9);
        }
        for (Case c : REFUSED) {
            Due d = based(TERMS, "if they are not refused otherwise");
            d.is(0, "cut", false, 0, 0);
            c.on(d).is(1, "count", 9).is(1, "count", 1).is(2, "count", 2).is(3, "count", 8).is(7, "count", 0);
        }
        Due full = Due.edge(TERMS, "if they are not refused otherwise");
        Stays.full(full.vault);
        full.needed(16384).is(0, "cut", false, 0, 0).is(Due.INDEX, "commit", 0).tape("n").is(Due.INDEX, "make", 0, true);
        full.tape("fff").is(Due.INDEX, "rename", 0, 0, 1).tape("y").is(Due.INDEX, "write", 2, 15266).is(1, "count", 9).is(1, "count", 1);
        full.tape("g").is(Due.STATE, "remove", 1).is(15, "mount").sound(6);
        Due late = based(TERMS, "if they are not refused otherwise");
        late.commit("a", "else").is(0, "cut", true, 0, 0).is(Due.UNSUPPORTED, "commit", 0).is(1, "count", 9).is(1, "count", 1);
    }

    private static void changesMeetIt() {
        for (Case c : CHANGES) {
            Due without = based(TERMS, "a call on files that changes something");
            c.on(without).moment(8).is(0, "count", 9).is(1, "count", 1).is(8, "mount");
            for (boolean late : new boolean[] {false, true}) {
                Due d = based(TERMS, "The call throws IllegalStateException");
                d.is(0, "cut", late, 2, 7);
                of(Due.STATE, c.tape, c.name, c.arguments).on(d);
                isDown(d).is(late ? 8 : 7, "mount").is(1, "count", 1).moment(late ? 8 : 7).is(0, "count", 2);
            }
            Stays.edge(TERMS, "So a commit or a call on files is done wholly if it is LATE, and nothing of it if not", v -> {
                Stays.base(v);
                Stays.tape(v, c.tape);
            }).failing(c.name, c.arguments);
        }
    }

    private static Due isDown(Due d) {
        d.is(0, "count", 1).is(0, "count", 2).is(0, "count", 7).is(0, "count", 8).is(0, "count", 9);
        return d.is(Due.STATE, "count", 0).is(Due.STATE, "count", 3).is(Due.STATE, "count", 5).is(Due.STATE, "count", 6);
    }

    private static void caresMeetIt() {
        for (Case c : CARES) {
            Due without = based(TERMS, "flush, compact, collect and mount always) meets it");
            c.on(without).moment(7).is(1, "count", 1).sound(6);
            int[][] parts = {{0, 0}, {0, 3000}, {1, 1}, {5, 9}, {1000, 0}, {Integer.MAX_VALUE, Integer.MAX_VALUE}};
            for (int i = 0; i < 2 * parts.length; i++) {
                Due d = based(TERMS, "the power fails, behind all that the call does if it is LATE, before that is whole if not");
                d.tape("tape").is(0, "cut", i % 2 == 0, parts[i / 2][0], parts[i / 2][1]).is(Due.STATE, c.name, c.arguments);
                isDown(d).is(7, "mount").needed(1062).moment(7).sound(6).is(0, "count", 7).is(0, "count", 8).is(1062, "flush");
            }
        }
        // also on a store in which nothing was ever written
        for (Case c : CARES) {
            Due d = Due.edge(TERMS, "flush, compact, collect and mount always");
            d.is(0, "cut", false, 0, 0).is(Due.STATE, c.name, c.arguments).is(0, "mount").is(0, "cut", true, 0, 0).is(Due.STATE, c.name, c.arguments);
            d.is(0, "mount").sound(0);
        }
    }

    private static void onlyOnce() {
        Due d = Due.edge(TERMS, "the CUT does not wait any more");
        d.is(0, "cut", true, 0, 0).is(Due.STATE, "flush").is(0, "count", 9).is(0, "mount").is(0, "flush").file("f", 1).is(0, "cut", false, 9, 9);
        d.tape("g").is(Due.STATE, "make", 0, true).is(0, "count", 9).is(1, "mount").tape("g").is(2, "make", 0, true).is(0, "cut", true, 0, 0);
    }

    private static void downThen() {
        Due d = based(TERMS, "DOWN then: no TRANSACTION is OPEN, the TAPE and the RESULT are empty (and stay so while it is DOWN)");
        d.is(2, "count", 2).is(3, "count", 8).tape("tape").down();
        isDown(d).is(Due.STATE, "feed", 1, 1, 1, 1, 1).is(Due.STATE, "fill", 1, 1).is(Due.STATE, "begin").is(Due.STATE, "seek", 0, false);
        d.is(Due.STATE, "read", 2, 0, 9).is(Due.STATE, "list", 0, 0).is(Due.STATE, "find").is(Due.STATE, "end", 0).is(Due.STATE, "word", 0);
        isDown(d).is(7, "mount").is(0, "count", 2).is(0, "count", 7).is(0, "count", 8).is(Due.NONE, "abort", 0).is(Due.NONE, "commit", 1);
        d.is(0, "begin").is(1, "seek", 0, false).result("a").is(0, "abort", 0);
        Due e = based(TERMS, "By mount the store comes UP with all that was done");
        e.is(8, "commit", 0).is(0, "begin").put(1, 0, "lost", "").tape("new").is(5, "make", 4, false).down().is(9, "mount").is(3 - 1, "count", 5);
        e.is(0, "begin").has(0, "a", "new").has(0, "b", null).has(0, "c", "three").has(0, "lost", null).tape("d/e/new").is(5, "find").sound(7);
    }

    // ---- what is thrown, in which order ----

    private static final Case[] WHEN_DOWN = {
        of(Due.STATE, "", "feed", 1, 2, 3, 4, 5), of(Due.ARGUMENT, "", "fill", 256, 1), of(Due.ARGUMENT, "", "fill", -1, 1),
        of(Due.ARGUMENT, "", "fill", 0, 0), of(Due.ARGUMENT, "", "fill", 0, 1001), of(Due.STATE, "", "fill", 0, 1),
        of(Due.ARGUMENT, "", "end", 1), of(Due.ARGUMENT, "", "end", -1), of(Due.STATE, "", "end", 0), of(Due.STATE, "", "begin"),
        of(Due.ARGUMENT, "", "put", 0, 1), of(Due.ARGUMENT, "", "put", 8, 1), of(Due.ARGUMENT, "", "delete", 0), of(Due.ARGUMENT, "", "get", 0),
        of(Due.ARGUMENT, "", "seek", 8, false), of(Due.ARGUMENT, "", "seek", -1, true), of(Due.STATE, "", "seek", 7, true),
        of(Due.ARGUMENT, "", "commit", 8), of(Due.STATE, "", "commit", 0), of(Due.STATE, "", "commit", 7), of(Due.ARGUMENT, "", "abort", -1),
        of(Due.STATE, "", "abort", 0), of(Due.STATE, "", "flush"), of(Due.STATE, "", "compact", true), of(Due.STATE, "", "compact", false),
        of(Due.STATE, "", "collect"), of(Due.ARGUMENT, "", "cut", false, -1, 0), of(Due.ARGUMENT, "", "cut", true, 0, -1),
        of(Due.STATE, "", "word", 0), of(Due.STATE, "", "word", -1), of(Due.ARGUMENT, "", "count", 10), of(Due.ARGUMENT, "", "count", -1),
        of(Due.ARGUMENT, "", "faults", 6), of(Due.ARGUMENT, "", "faults", -1), of(Due.STATE, "", "check"), of(Due.ARGUMENT, "", "make", 0, true),
        of(Due.ARGUMENT, "", "make", 201, true), of(Due.ARGUMENT, "", "remove", 0), of(Due.ARGUMENT, "", "rename", 0, 0, 1),
        of(Due.STATE, "", "find"), of(Due.ARGUMENT, "", "write", 2, 0), of(Due.ARGUMENT, "", "read", 201, 0, 0), of(Due.ARGUMENT, "", "read", 2, -1, 0),
        of(Due.ARGUMENT, "", "read", 2, 16385, 0), of(Due.ARGUMENT, "", "read", 2, 0, 1001), of(Due.STATE, "", "read", 2, 0, 0),
        of(Due.STATE, "", "read", 9, 16384, 1000), of(Due.ARGUMENT, "", "resize", 2, 16385), of(Due.ARGUMENT, "", "resize", 201, 0),
        of(Due.STATE, "", "resize", 2, 700), of(Due.STATE, "", "resize", 9, 0), of(Due.ARGUMENT, "", "list", 201, 0), of(Due.STATE, "", "list", 0, -1),
        of(Due.STATE, "", "list", 9, 0), of(Due.ARGUMENT, "", "about", 201, 0), of(Due.ARGUMENT, "", "about", 0, 4), of(Due.STATE, "", "about", 0, 0),
        of(Due.STATE, "", "about", 9, 3),
    };

    private static void whenDown() {
        for (Case c : WHEN_DOWN) {
            Due d = based(TERMS, "IllegalStateException: it is DOWN");
            d.down();
            c.on(d).is(0, "count", 9).is(7, "mount");
            // a cut goes on waiting, whatever the reason
            Due e = based(TERMS, "IllegalStateException: it is DOWN");
            e.down().is(0, "cut", true, 0, 0);
            c.on(e).is(1, "count", 9).is(0, "count", 1).is(Due.STATE, "mount").is(7, "mount").sound(6);
        }
        Case[] stay = new Case[] {WHEN_DOWN[0], WHEN_DOWN[5], WHEN_DOWN[8], WHEN_DOWN[22], WHEN_DOWN[25], WHEN_DOWN[10], WHEN_DOWN[39]};
        for (Case c : stay) {
            Stays.edge(TERMS, "IllegalStateException: it is DOWN", v -> {
                Stays.base(v);
                v.cut(true, 0, 0);
                Call.of("flush").on(v);
            }).unchanged(c.due.toString(), c.name, c.arguments);
        }
    }

    private static void argumentsFirst() {
        Due d = based(TERMS, "What is thrown, in this order: IllegalArgumentException: a number out of range, or a TAPE that is not of the form told");
        // each of these would throw something else too
        d.is(Due.ARGUMENT, "put", 5, 1).is(Due.ARGUMENT, "delete", 5).is(Due.ARGUMENT, "get", 5).is(Due.ARGUMENT, "make", 2, true);
        d.is(Due.ARGUMENT, "remove", 2).is(Due.ARGUMENT, "write", 1, 0).is(Due.ARGUMENT, "rename", 2, 2, 1).tape("/");
        d.is(Due.ARGUMENT, "make", 2, true).is(Due.ARGUMENT, "remove", 99).is(Due.ARGUMENT, "put", 5, 2).is(Due.ARGUMENT, "put", 5, 0);
        d.is(Due.ARGUMENT, "write", 1, 16384).is(Due.ARGUMENT, "write", 1, -1).is(Due.ARGUMENT, "read", 1, 16385, 0).is(Due.ARGUMENT, "read", 1, 0, 1001);
        d.is(Due.ARGUMENT, "resize", 1, -1).is(Due.ARGUMENT, "about", 9, 4).is(Due.ARGUMENT, "about", 9, -1).is(0, "end", 0).tape(1, 2000);
        d.is(Due.ARGUMENT, "fill", 1, 1001).is(Due.ARGUMENT, "fill", -1, 1000).is(Due.ARGUMENT, "seek", 5, false).is(Due.ARGUMENT, "get", 5);
        d.is(Due.ARGUMENT, "put", 5, 40).is(Due.ARGUMENT, "rename", 2, 2, 30).is(Due.ARGUMENT, "make", 0, false).is(Due.ARGUMENT, "remove", 0);
    }

    private static void thenAsTheCallSays() {
        Due d = based(TERMS, "then as the call says");
        // no directory before a name that is there, that before all the numbers and the limit
        d.tape("d").is(Due.NONE, "make", 2, true).tape("d").is(Due.UNSUPPORTED, "make", 0, true).tape("xy").is(Due.NONE, "rename", 0, 2, 1);
        d.tape("df").is(Due.NONE, "rename", 0, 2, 1).tape("xd").is(Due.NONE, "rename", 0, 0, 1);
        Due full = Due.edge(TERMS, "then as the call says");
        Stays.full(full.vault);
        full.tape("n").is(Due.NONE, "make", 2, true).tape("d").is(Due.UNSUPPORTED, "make", 0, true).tape("n").is(Due.INDEX, "make", 0, true);
        full.tape("x").is(Due.NONE, "write", 1, 0).tape("nnn").is(Due.NONE, "rename", 0, 0, 1).tape("d" + "n".repeat(30)).is(Due.UNSUPPORTED, "rename", 0, 4, 1);
        // a key that was changed since before the limit; not open before both
        full.tape("g").is(3, "remove", 1).is(2, "begin").put(1, 2, "a", "now").is(17, "commit", 2).put(4, 0, "z", "y".repeat(99));
        full.is(Due.UNSUPPORTED, "commit", 0).is(Due.NONE, "commit", 0);
        Due last = based(TERMS, "IllegalStateException: the power fails");
        last.is(0, "cut", false, 0, 0).tape("d").is(Due.UNSUPPORTED, "make", 0, true).tape("n").is(Due.STATE, "make", 0, true).is(7, "mount");
    }

    // ---- what stays ----

    private static Stays made(Stays.Steps steps) {
        return Stays.edge(TERMS, "A call that throws changes nothing (the RESULT stays), but as said", steps);
    }

    private static Stays basedWith(String tape) {
        return made(v -> {
            Stays.base(v);
            Stays.tape(v, tape);
        });
    }

    private static Stays fullWith(String tape) {
        return made(v -> {
            Stays.full(v);
            Stays.tape(v, tape);
        });
    }

    private static void wrongArgumentsChangeNothing() {
        Stays s = basedWith("tape");
        int[] noTransactions = {-1, 8, Integer.MIN_VALUE, Integer.MAX_VALUE};
        for (int t : noTransactions) {
            s.unchanged(Due.ARGUMENT, "put", t, 1).unchanged(Due.ARGUMENT, "delete", t).unchanged(Due.ARGUMENT, "get", t);
            s.unchanged(Due.ARGUMENT, "seek", t, false).unchanged(Due.ARGUMENT, "commit", t).unchanged(Due.ARGUMENT, "abort", t);
        }
        for (int n : new int[] {-1, 201, Integer.MIN_VALUE, Integer.MAX_VALUE}) {
            s.unchanged(Due.ARGUMENT, "make", n, true).unchanged(Due.ARGUMENT, "remove", n).unchanged(Due.ARGUMENT, "rename", n, 0, 1);
            s.unchanged(Due.ARGUMENT, "rename", 0, n, 1).unchanged(Due.ARGUMENT, "write", n, 0).unchanged(Due.ARGUMENT, "read", n, 0, 1);
            s.unchanged(Due.ARGUMENT, "resize", n, 0).unchanged(Due.ARGUMENT, "list", n, 0).unchanged(Due.ARGUMENT, "about", n, 0);
        }
        for (int k : new int[] {-1, 0, 5, 41, Integer.MAX_VALUE, Integer.MIN_VALUE}) {
            s.unchanged(Due.ARGUMENT, "put", 0, k).unchanged(Due.ARGUMENT, "rename", 0, 0, k);
        }
        s.unchanged(Due.ARGUMENT, "rename", 0, 0, 4).unchanged(Due.ARGUMENT, "end", 5).unchanged(Due.ARGUMENT, "end", -1);
        s.unchanged(Due.ARGUMENT, "fill", 256, 1).unchanged(Due.ARGUMENT, "fill", -1, 1).unchanged(Due.ARGUMENT, "fill", 1, 0).unchanged(Due.ARGUMENT, "fill", 1, 1001);
        s.unchanged(Due.ARGUMENT, "write", 2, -1).unchanged(Due.ARGUMENT, "write", 2, 16381).unchanged(Due.ARGUMENT, "write", 2, Integer.MAX_VALUE);
        s.unchanged(Due.ARGUMENT, "read", 2, 16385, 0).unchanged(Due.ARGUMENT, "read", 2, -1, 0).unchanged(Due.ARGUMENT, "read", 2, 0, 1001).unchanged(Due.ARGUMENT, "read", 2, 0, -1);
        s.unchanged(Due.ARGUMENT, "resize", 2, 16385).unchanged(Due.ARGUMENT, "resize", 2, -1).unchanged(Due.ARGUMENT, "about", 2, 4).unchanged(Due.ARGUMENT, "about", 2, -1);
        s.unchanged(Due.ARGUMENT, "count", 10).unchanged(Due.ARGUMENT, "faults", 6).unchanged(Due.ARGUMENT, "cut", true, -1, 0).unchanged(Due.ARGUMENT, "cut", false, 0, -1);
    }

    private static void wrongTapesChangeNothing() {
        for (String tape : new String[] {"", "a".repeat(41), "a/".repeat(21)}) {
            Stays s = basedWith(tape);
            s.unchanged(Due.ARGUMENT, "delete", 0).unchanged(Due.ARGUMENT, "get", 0).unchanged(Due.ARGUMENT, "make", 0, true).unchanged(Due.ARGUMENT, "remove", 0);
            s.unchanged(Due.ARGUMENT, "put", 0, 41).unchanged(Due.ARGUMENT, "put", 0, 0).unchanged(Due.ARGUMENT, "rename", 0, 0, 31).unchanged(Due.ARGUMENT, "rename", 0, 0, 10);
        }
        basedWith("").unchanged(Due.ARGUMENT, "write", 2, 0).unchanged(Due.ARGUMENT, "put", 0, 1).unchanged(Due.ARGUMENT, "rename", 0, 0, 1);
        basedWith("a".repeat(41)).unchanged(Due.ARGUMENT, "seek", 0, false).unchanged(Due.ARGUMENT, "seek", 0, true);
        basedWith("a".repeat(1002)).unchanged(Due.ARGUMENT, "put", 0, 1);
        basedWith("f/g").unchanged(Due.ARGUMENT, "make", 0, true).unchanged(Due.ARGUMENT, "remove", 0).unchanged(Due.ARGUMENT, "rename", 0, 0, 1).unchanged(Due.ARGUMENT, "rename", 0, 0, 2);
        basedWith("a".repeat(31)).unchanged(Due.ARGUMENT, "make", 0, true).unchanged(Due.ARGUMENT, "remove", 0).unchanged(Due.ARGUMENT, "rename", 0, 0, 31);
        basedWith("f" + "a".repeat(31)).unchanged(Due.ARGUMENT, "rename", 0, 0, 1);
        basedWith("y".repeat(2000)).unchanged(Due.INDEX, "feed", 1, 2, 3, 4, 5).unchanged(Due.INDEX, "fill", 1, 1).unchanged(Due.ARGUMENT, "write", 2, 14385);
        basedWith("y".repeat(1981)).unchanged(Due.INDEX, "feed", 1, 2, 3, 4, 5).unchanged(Due.INDEX, "fill", 1, 20);
    }

    private static void refusedTransactionsStay() {
        basedWith("ab").butTheTape(Due.NONE, "put", 2, 1).butTheTape(Due.NONE, "delete", 2).butTheTape(Due.NONE, "get", 2).butTheTape(Due.NONE, "seek", 2, true);
        basedWith("tape").unchanged(Due.NONE, "commit", 2).unchanged(Due.NONE, "abort", 2).unchanged(Due.INDEX, "word", 3).unchanged(Due.INDEX, "word", -1);
        made(v -> { // all are open
            Stays.base(v);
            for (int t = 2; t < 8; t++) {
                v.begin();
            }
        }).unchanged(Due.INDEX, "begin");
        made(v -> { // 32 keys
            Stays.base(v);
            for (int i = 3; i < 32; i++) {
                Stays.put(v, 0, "key" + i, "");
            }
            Stays.tape(v, "more");
        }).butTheTape(Due.UNSUPPORTED, "put", 0, 4).butTheTape(Due.UNSUPPORTED, "delete", 0);
        made(v -> { // 4000 bytes
            Stays.base(v);
            for (int i = 0; i < 3; i++) {
                Stays.put(v, 0, "key" + i, "v".repeat(1000));
            }
            Stays.put(v, 0, "last", "v".repeat(973));
            Stays.tape(v, "anew!");
        }).butTheTape(Due.UNSUPPORTED, "put", 0, 1).butTheTape(Due.UNSUPPORTED, "delete", 0);
        made(v -> { // a key that was changed
            Stays.base(v);
            Stays.commit(v, "b", "else");
            Stays.tape(v, "tape");
        }).like(v -> v.abort(0), Due.UNSUPPORTED, "commit", 0);
        fullWith("tape").unchanged(Due.INDEX, "commit", 0);
    }

    private static void refusedFilesStay() {
        basedWith("n").butTheTape(Due.NONE, "make", 2, true).butTheTape(Due.NONE, "make", 200, false).butTheTape(Due.NONE, "remove", 0);
        basedWith("n").butTheTape(Due.NONE, "remove", 2).butTheTape(Due.NONE, "write", 1, 0).butTheTape(Due.NONE, "write", 0, 0).butTheTape(Due.NONE, "find");
        basedWith("d").butTheTape(Due.UNSUPPORTED, "make", 0, true).butTheTape(Due.UNSUPPORTED, "make", 0, false).butTheTape(Due.UNSUPPORTED, "remove", 0);
        basedWith("nf").butTheTape(Due.NONE, "rename", 0, 0, 1);
        basedWith("fn").butTheTape(Due.NONE, "rename", 0, 3, 1).butTheTape(Due.NONE, "rename", 2, 0, 1);
        basedWith("df").butTheTape(Due.UNSUPPORTED, "rename", 0, 0, 1).butTheTape(Due.UNSUPPORTED, "rename", 0, 1, 1).butTheTape(Due.UNSUPPORTED, "rename", 0, 4, 1);
        basedWith("fd").butTheTape(Due.UNSUPPORTED, "rename", 0, 0, 1);
        basedWith("tape").unchanged(Due.NONE, "read", 1, 0, 9).unchanged(Due.NONE, "resize", 1, 9).unchanged(Due.NONE, "list", 2, 0);
        basedWith("tape").unchanged(Due.NONE, "list", 0, 2).unchanged(Due.NONE, "list", 0, -1).unchanged(Due.NONE, "about", 5, 0);
        fullWith("n").butTheTape(Due.INDEX, "make", 0, true).butTheTape(Due.INDEX, "write", 3, 0);
        fullWith("f" + "n".repeat(30)).butTheTape(Due.INDEX, "rename", 0, 0, 1);
        fullWith("z".repeat(200)).butTheTape(Due.INDEX, "write", 2, 15100);
    }

    public static void main(String[] args) {
        upAndDown();
        whichCallsMeetIt();
        changesMeetIt();
        caresMeetIt();
        onlyOnce();
        downThen();
        whenDown();
        argumentsFirst();
        thenAsTheCallSays();
        wrongArgumentsChangeNothing();
        wrongTapesChangeNothing();
        refusedTransactionsStay();
        refusedFilesStay();
        Due.finish();
    }
}
