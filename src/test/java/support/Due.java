import java.nio.charset.StandardCharsets;

/** A vault whose answers are compared with written ones. */
public final class Due {
    static final String ARGUMENT = "throws.IllegalArgumentException";
    static final String STATE = "throws.IllegalStateException";
    static final String INDEX = "throws.IndexOutOfBoundsException";
    static final String NONE = "throws.NoSuchElementException";
    static final String UNSUPPORTED = "throws.UnsupportedOperationException";

    static int wrong = 0;

    final String title;
    final FlashVault vault;

    Due(String title, int size) {
        this.title = title;
        vault = new FlashVault(size);
    }

    /** The call's answer is due, a number or one of the texts above. */
    Due is(Object due, String name, Object... arguments) {
        Call c = Call.of(name, arguments);
        String got = c.on(vault);
        if (!got.equals(due.toString())) {
            wrong++;
            System.out.println(title + ": " + c + " answered " + got + ", due is " + due);
        }
        return this;
    }

    /** The tape, empty before, is this. */
    Due tape(String s) {
        for (byte b : s.getBytes(StandardCharsets.ISO_8859_1)) {
            vault.fill(b & 255, 1);
        }
        return this;
    }

    /** The tape, empty before, is n bytes v. */
    Due tape(int v, int n) {
        for (int left = n; left > 0; left -= 1000) {
            vault.fill(v, Math.min(left, 1000));
        }
        return this;
    }

    /** The result is this. */
    Due result(String s) {
        byte[] due = s.getBytes(StandardCharsets.ISO_8859_1);
        is(due.length, "count", 8);
        for (int i = 0; i < due.length; i++) {
            long word = 0;
            for (int k = i; k < i + 8; k++) {
                word = word << 8 | (k < due.length ? due[k] & 255 : 0);
            }
            is(word, "word", i);
        }
        return is(INDEX, "word", due.length);
    }

    /** A commit of its own, of one key; answers nothing but must go well. */
    Due commit(String key, String value) {
        int t = vault.begin();
        tape(key + value);
        vault.put(t, key.length());
        vault.commit(t);
        return this;
    }

    /** A commit of the key with the value v, in which the power fails. */
    Due commitNot(String key) {
        int t = vault.begin();
        tape(key + "v");
        vault.put(t, key.length());
        return is(STATE, "commit", t);
    }

    /** The value that the key has to t; null for none. */
    Due has(int t, String key, String value) {
        tape(key).is(value == null ? -1 : value.length(), "get", t);
        return result(value == null ? "" : value);
    }

    Due file(String name, int number) {
        return tape(name).is(number, "make", 0, false);
    }

    Due directory(String name, int number) {
        return tape(name).is(number, "make", 0, true);
    }

    /** Nothing was found wrong, and as many keys and files as told are there in order. */
    Due sound(int n) {
        for (int what = 0; what <= 5; what++) {
            is(0, "faults", what);
        }
        return is(n, "check");
    }

    static void finish() {
        System.out.println(wrong == 0 ? "all answers are as due" : wrong + " answers are not as due");
        if (wrong != 0) {
            System.exit(1);
        }
    }
}
