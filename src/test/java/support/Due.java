import java.nio.charset.StandardCharsets;

/** A vault whose answers are compared with written ones. */
public final class Due {
    static final String ARGUMENT = "throws.IllegalArgumentException";
    static final String STATE = "throws.IllegalStateException";
    static final String INDEX = "throws.IndexOutOfBoundsException";
    static final String NONE = "throws.NoSuchElementException";
    static final String UNSUPPORTED = "throws.UnsupportedOperationException";

    /** What the document promises of one object ends behind so many calls. */
    private static final int MOST_CALLS = 512;

    static int wrong = 0;

    final String title;
    final FlashVault vault;
    private int calls = 0;
    private boolean keepsToMostCalls = false;

    Due(String title, int size) {
        this.title = title;
        vault = new FlashVault(size);
    }

    /** For a sentence of the document: where it stands, and its words, which SentencesTest looks up there. */
    static Due edge(String place, String words, int size) {
        Due d = new Due(place + " \"" + words + "\"", size);
        d.keepsToMostCalls = true;
        return d;
    }

    static Due edge(String place, String words) {
        return edge(place, words, 0);
    }

    static void tell(String what) {
        wrong++;
        System.out.println(what);
    }

    /** The call's answer is due, a number or one of the texts above. */
    Due is(Object due, String name, Object... arguments) {
        Call c = Call.of(name, arguments);
        String got = c.on(vault);
        called();
        if (!got.equals(due.toString())) {
            tell(title + ": " + c + " answered " + got + ", due is " + due);
        }
        return this;
    }

    int calls() {
        return calls;
    }

    private void called() {
        calls++;
        if (keepsToMostCalls && calls == MOST_CALLS + 1) {
            tell(title + ": the test makes more calls than the document speaks of");
        }
    }

    /** Each of these calls is answered alike. */
    Due all(Object due, String name, Object[]... arguments) {
        for (Object[] a : arguments) {
            is(due, name, a);
        }
        return this;
    }

    /** These bytes come to the tape: twenty at once, or, where they are the same, as many as there are. */
    Due tape(String s) {
        byte[] b = s.getBytes(StandardCharsets.ISO_8859_1);
        int i = 0;
        while (i < b.length) {
            int same = Math.min(same(b, i), 1000);
            int different = 1;
            while (different < 20 && i + different < b.length && same(b, i + different) < 20) {
                different++;
            }
            // at the tape's end, which is empty before if this is so long, there is no room for twenty
            if (same >= different || different < 3 || i + 20 > 2000) {
                vault.fill(b[i] & 255, same);
                i += same;
            } else {
                feed(b, i, different);
                i += different;
            }
            called();
        }
        return this;
    }

    private static int same(byte[] b, int i) {
        int n = 1;
        while (i + n < b.length && b[i + n] == b[i]) {
            n++;
        }
        return n;
    }

    private void feed(byte[] b, int i, int n) {
        int[] five = new int[5];
        for (int k = 0; k < 20; k++) {
            five[k / 4] = five[k / 4] << 8 | (k < n ? b[i + k] & 255 : 0);
        }
        int length = vault.feed(five[0], five[1], five[2], five[3], five[4]);
        if (n < 20) {
            vault.end(length - 20 + n);
            called();
        }
    }

    /** The tape, empty before, is n bytes v. */
    Due tape(int v, int n) {
        for (int left = n; left > 0; left -= 1000) {
            vault.fill(v, Math.min(left, 1000));
            called();
        }
        return this;
    }

    /** The result is this. */
    Due result(String s) {
        byte[] due = s.getBytes(StandardCharsets.ISO_8859_1);
        is(due.length, "count", 8);
        for (int i = 0; i < due.length; i += 8) {
            long word = 0;
            for (int k = i; k < i + 8; k++) {
                word = word << 8 | (k < due.length ? due[k] & 255 : 0);
            }
            is(word, "word", i);
        }
        return is(INDEX, "word", due.length);
    }

    /** The tape, which may be of up to 1040 bytes and is not empty, is this; it is empty behind. */
    Due tapeIs(String s) {
        is(s.length(), "count", 7);
        int t = vault.begin();
        int k = Math.min(40, s.length());
        is(1, "put", t, k);
        tape(s.substring(0, k)).is(s.length() - k, "get", t).result(s.substring(k));
        return is(1, "abort", t);
    }

    /** Key and value are among the writes of t, which then have so many keys. */
    Due put(int keys, int t, String key, String value) {
        return tape(key + value).is(keys, "put", t, key.length());
    }

    Due delete(int keys, int t, String key) {
        return tape(key).is(keys, "delete", t);
    }

    /** A commit of its own, of one key; answers nothing but must go well. */
    Due commit(String key, String value) {
        int t = vault.begin();
        tape(key + value);
        vault.put(t, key.length());
        vault.commit(t);
        calls += 3;
        return this;
    }

    /** A commit of its own, by which the key is taken out. */
    Due commitOut(String key) {
        int t = vault.begin();
        tape(key);
        vault.delete(t);
        vault.commit(t);
        calls += 3;
        return this;
    }

    /** A commit of the key with the value v, in which the power fails. */
    Due commitNot(String key) {
        int t = vault.begin();
        tape(key + "v");
        vault.put(t, key.length());
        return is(STATE, "commit", t);
    }

    /** The value that the key has to t; null for none. */
    Due has(int t, String key, String value) {
        tape(key).is(value == null ? -1 : value.length(), "get", t);
        return result(value == null ? "" : value);
    }

    /** The key that is found from here on; null for none. */
    Due seeks(int t, String from, boolean beyond, String key) {
        tape(from).is(key == null ? -1 : key.length(), "seek", t, beyond);
        return result(key == null ? "" : key);
    }

    Due file(String name, int number) {
        return tape(name).is(number, "make", 0, false);
    }

    Due directory(String name, int number) {
        return tape(name).is(number, "make", 0, true);
    }

    Due moment(int n) {
        return is(n, "count", 0);
    }

    Due needed(int n) {
        return is(n, "count", 3);
    }

    /** The power fails behind a flush. */
    Due down() {
        vault.cut(true, 0, 0);
        calls++;
        return is(STATE, "flush").is(0, "count", 1);
    }

    /** Nothing was found wrong, and as many keys and files as told are there in order. */
    Due sound(int n) {
        for (int what = 0; what <= 5; what++) {
            is(0, "faults", what);
        }
        return is(n, "check");
    }

    static void finish() {
        System.out.println(wrong == 0 ? "all answers are as due" : wrong + " answers are not as due");
        if (wrong != 0) {
            System.exit(1);
        }
    }
}
