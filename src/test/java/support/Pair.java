import java.util.ArrayList;
import java.util.List;

/** The class and the model, given the same calls; the first answer that differs is told with the calls before. */
public final class Pair {
    final FlashVault vault;
    final Model model;
    final String title;
    private final List<String> told = new ArrayList<>();
    boolean wrong = false;
    int calls = 0;

    Pair(String title, int size) {
        this.title = title;
        vault = new FlashVault(size);
        model = new Model(size);
        told.add("new FlashVault(" + size + ")");
    }

    String call(String name, Object... arguments) {
        Call c = Call.of(name, arguments);
        String due = c.on(model);
        String got = c.on(vault);
        calls++;
        told.add(c + " -> " + got);
        if (!got.equals(due) && !wrong) {
            wrong = true;
            System.out.println(title + ": call " + calls + " " + c + " answered " + got + ", due is " + due);
            for (String s : told.subList(Math.max(0, told.size() - 25), told.size())) {
                System.out.println("    " + s);
            }
        }
        return due;
    }

    int number(String name, Object... arguments) {
        String s = call(name, arguments);
        return s.startsWith("throws.") ? -2 : (int) Long.parseLong(s);
    }

    /** Puts these bytes on an empty tape. */
    void tape(byte[] b) {
        if (b.length == 0) {
            call("end", 0);
        }
        int i = 0;
        while (i < b.length) {
            int run = i;
            while (run < b.length && b[run] == b[i] && run - i < 1000) {
                run++;
            }
            if (run - i >= 20 || run == b.length) {
                call("fill", b[i] & 255, run - i);
                i = run;
            } else {
                int[] five = new int[5];
                for (int k = 0; k < 20; k++) {
                    int v = i + k < b.length ? b[i + k] & 255 : 0;
                    five[k / 4] = five[k / 4] << 8 | v;
                }
                call("feed", five[0], five[1], five[2], five[3], five[4]);
                i += 20;
                if (i > b.length) {
                    call("end", b.length);
                }
            }
        }
    }

    void tape(String s) {
        tape(s.getBytes(java.nio.charset.StandardCharsets.ISO_8859_1));
    }

    /** All that can be asked without a change. */
    void compareAll() {
        for (int what = 0; what <= 9; what++) {
            call("count", what);
        }
        call("check");
        watch();
    }

    void watch() {
        for (int what = 0; what <= 5; what++) {
            call("faults", what);
        }
    }

    /** Walks over all keys with their values and over all files with their bytes. */
    void compareContents() {
        if (model.count(1) == 0) {
            return;
        }
        call("end", 0);
        int t = number("begin");
        if (t >= 0) {
            walkKeys(t);
            call("abort", t);
        }
        for (int number = 0; number <= 200; number++) {
            String kind = call("about", number, 0);
            if (kind.startsWith("throws.")) {
                continue;
            }
            call("about", number, 1);
            call("about", number, 2);
            call("about", number, 3);
            if (kind.equals("1")) {
                walkFile(number);
            } else {
                walkNames(number);
            }
        }
    }

    private void words() {
        int n = model.count(8);
        for (int i = 0; i < n; i += 8) {
            call("word", i);
        }
    }

    private void walkKeys(int t) {
        byte[] key = new byte[0];
        for (int i = 0; i < 2000; i++) {
            tape(key);
            int n = number("seek", t, i > 0);
            if (n < 0) {
                return;
            }
            key = result(n);
            tape(key);
            call("get", t);
            words();
        }
    }

    private byte[] result(int n) {
        byte[] b = new byte[n];
        for (int i = 0; i < n; i++) {
            b[i] = (byte) (Long.parseLong(call("word", i)) >> 56);
        }
        return b;
    }

    private void walkFile(int file) {
        int size = model.about(file, 1);
        for (int at = 0; at < size; at += 1000) {
            call("read", file, at, 1000);
            words();
        }
    }

    private void walkNames(int dir) {
        int n = model.about(dir, 1);
        for (int i = -1; i <= n; i++) {
            call("list", dir, i);
            if (i >= 0 && i < n) {
                words();
            }
        }
    }
}
