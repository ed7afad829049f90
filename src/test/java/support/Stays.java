import java.util.ArrayList;
import java.util.List;

/**
 * What stays as it was behind a call that throws. Two stores are made by the same calls; one meets the call that
 * throws, the other what the document says that this leaves. Then nothing that can be asked may tell them apart:
 * each question is asked of a store that was made anew, so no question disturbs another.
 */
public final class Stays {
    interface Steps {
        void on(FlashVault v);
    }

    private final String title;
    private final Steps before;

    private Stays(String title, Steps before) {
        this.title = title;
        this.before = before;
    }

    /** For a sentence of the document: where it stands, and its words, which SentencesTest looks up there. */
    static Stays edge(String place, String words, Steps before) {
        return new Stays(place + " \"" + words + "\"", before);
    }

    // ---- steps that many stores are made with ----

    static void tape(FlashVault v, String s) {
        for (int i = 0; i < s.length(); i++) {
            int run = i;
            while (run + 1 < s.length() && s.charAt(run + 1) == s.charAt(i) && run - i < 999) {
                run++;
            }
            v.fill(s.charAt(i), run - i + 1);
            i = run;
        }
    }

    static void put(FlashVault v, int t, String key, String value) {
        tape(v, key + value);
        v.put(t, key.length());
    }

    static void commit(FlashVault v, String key, String value) {
        int t = v.begin();
        put(v, t, key, value);
        v.commit(t);
    }

    static void make(FlashVault v, int dir, String name, boolean directory) {
        tape(v, name);
        v.make(dir, directory);
    }

    /**
     * Keys, with what was done to them and what two transactions see; the first of these has writes. Directories 1 (d)
     * and, within it, 4 (e); files 2 (f) of 700 bytes and, in d, 3 (g). A result. The moment is 7, and 1062 are needed.
     */
    static void base(FlashVault v) {
        commit(v, "a", "one");
        commit(v, "b", "two");
        make(v, 0, "d", true);
        make(v, 0, "f", false);
        make(v, 1, "g", false);
        make(v, 1, "e", true);
        tape(v, "x".repeat(600));
        v.write(2, 100);
        v.begin();
        put(v, 0, "a", "new");
        tape(v, "b");
        v.delete(0);
        put(v, 0, "c", "three");
        v.begin();
        tape(v, "a");
        v.get(1);
    }

    /** As base, with so many bytes in f that the limit of 16384 is reached. */
    static void full(FlashVault v) {
        base(v);
        for (int at = 700; at < 14700; at += 2000) {
            tape(v, "y".repeat(2000));
            v.write(2, at);
        }
        tape(v, "y".repeat(566));
        v.write(2, 14700);
        tape(v, "a");
        v.get(1);
    }

    // ---- what is due ----

    /** The call throws what is due and changes nothing at all, the tape either. */
    Stays unchanged(String due, String name, Object... arguments) {
        return like(v -> { }, due, name, arguments);
    }

    /** The call throws what is due; the tape, which it read, is empty, and nothing else is changed. */
    Stays butTheTape(String due, String name, Object... arguments) {
        return like(v -> v.end(0), due, name, arguments);
    }

    /** The call throws what is due and leaves what the other steps would leave. */
    Stays like(Steps other, String due, String name, Object... arguments) {
        Call call = Call.of(name, arguments);
        String got = call.on(made(v -> { }));
        if (!got.equals(due)) {
            Due.tell(title + ": " + call + " answered " + got + ", due is " + due);
            return this;
        }
        return same(call.toString(), v -> call.on(v), other);
    }

    /** The power fails in the call before it is whole, and nothing of it is done; or behind it, and all of it is. */
    Stays failing(String name, Object... arguments) {
        Call call = Call.of(name, arguments);
        Call flush = Call.of("flush");
        for (int n = 0; n < 12; n++) {
            int part = n;
            same("nothing of it, " + call, v -> {
                v.cut(false, part, part * part);
                call.on(v);
            }, v -> {
                v.cut(false, 0, 0);
                flush.on(v);
            });
        }
        return same("all of it, " + call, v -> {
            v.cut(true, 0, 0);
            call.on(v);
        }, v -> {
            call.on(v);
            v.cut(true, 0, 0);
            flush.on(v);
        });
    }

    private Stays same(String what, Steps a, Steps b) {
        List<String> got = observed(a);
        List<String> due = observed(b);
        for (int i = 0; i < Math.max(got.size(), due.size()); i++) {
            String x = i < got.size() ? got.get(i) : "nothing";
            String y = i < due.size() ? due.get(i) : "nothing";
            if (!x.equals(y)) {
                Due.tell(title + ": behind " + what + " " + x + ", due is " + y);
                return this;
            }
        }
        return this;
    }

    private FlashVault made(Steps last) {
        FlashVault v = new FlashVault(0);
        before.on(v);
        last.on(v);
        return v;
    }

    private List<String> observed(Steps last) {
        List<String> seen = new ArrayList<>();
        counts(made(last), seen);
        tape(made(last), seen);
        for (int t = 0; t < 8; t++) {
            transaction(made(last), t, seen);
        }
        files(made(last), seen);
        ends(made(last), "commit", seen);
        ends(made(last), "abort", seen);
        power(made(last), seen);
        return seen;
    }

    private static String ask(FlashVault v, List<String> seen, String name, Object... arguments) {
        Call c = Call.of(name, arguments);
        String s = c.on(v);
        seen.add(c + " answers " + s);
        return s;
    }

    private static void counts(FlashVault v, List<String> seen) {
        for (int what = 0; what <= 9; what++) {
            ask(v, seen, "count", what);
        }
        for (int what = 0; what <= 5; what++) {
            ask(v, seen, "faults", what);
        }
        ask(v, seen, "check");
        words(v, seen);
    }

    private static void words(FlashVault v, List<String> seen) {
        int n = v.count(8);
        for (int i = 0; i <= n; i += 8) {
            ask(v, seen, "word", i);
        }
    }

    /** The tape's bytes come to light as a key with a value, and as those of a file, where there is one. */
    private static void tape(FlashVault v, List<String> seen) {
        int n = v.count(7);
        if (n == 0) {
            return;
        }
        for (int number = 1; number <= 200; number++) {
            if (Call.of("about", number, 0).on(v).equals("1")) {
                ask(v, seen, "write", number, 0);
                file(v, number, seen);
                break;
            }
        }
        if (v.count(7) == 0) {
            return;
        }
        if (v.count(2) == 8) {
            v.abort(7);
        }
        int t = v.begin();
        v.end(Math.min(n, 1040));
        ask(v, seen, "put", t, Math.min(40, n));
        walk(v, t, seen);
    }

    private static void transaction(FlashVault v, int t, List<String> seen) {
        Call.of("end", 0).on(v);
        walk(v, t, seen);
    }

    /** All keys that have a value to t, with their values. */
    private static void walk(FlashVault v, int t, List<String> seen) {
        byte[] key = new byte[0];
        for (int i = 0; i < 2000; i++) {
            feed(v, key);
            String s = ask(v, seen, "seek", t, i > 0);
            if (s.startsWith("throws.") || s.equals("-1")) {
                return;
            }
            key = new byte[v.count(8)];
            for (int k = 0; k < key.length; k++) {
                key[k] = (byte) (v.word(k) >> 56);
            }
            words(v, seen);
            feed(v, key);
            ask(v, seen, "get", t);
            words(v, seen);
        }
    }

    private static void feed(FlashVault v, byte[] b) {
        for (byte one : b) {
            v.fill(one & 255, 1);
        }
    }

    private static void files(FlashVault v, List<String> seen) {
        for (int number = 0; number <= 200; number++) {
            String kind = ask(v, seen, "about", number, 0);
            for (int what = 1; what <= 3 && !kind.startsWith("throws."); what++) {
                ask(v, seen, "about", number, what);
            }
            if (kind.equals("1")) {
                file(v, number, seen);
            } else if (kind.equals("2")) {
                for (int i = 0; i <= v.about(number, 1); i++) {
                    ask(v, seen, "list", number, i);
                    words(v, seen);
                }
            }
        }
    }

    private static void file(FlashVault v, int number, List<String> seen) {
        for (int at = 0; at < 16384 && at < v.about(number, 1); at += 1000) {
            ask(v, seen, "read", number, at, 1000);
            words(v, seen);
        }
    }

    /** What the transactions would do. */
    private static void ends(FlashVault v, String name, List<String> seen) {
        for (int t = 0; t < 8; t++) {
            ask(v, seen, name, t);
        }
        Call.of("mount").on(v);
        Call.of("mount").on(v);
        counts(v, seen);
        walk(v, v.begin(), seen);
    }

    /** Whether a cut waits, and what is there behind it. */
    private static void power(FlashVault v, List<String> seen) {
        ask(v, seen, "flush");
        ask(v, seen, "count", 1);
        ask(v, seen, "mount");
        ask(v, seen, "mount");
        counts(v, seen);
        walk(v, v.begin(), seen);
        files(v, seen);
    }
}
