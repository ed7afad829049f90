import java.lang.reflect.Field;

/**
 * Promises 19 and 20 from within: the store's own watch must see what is wrong, so here things are put wrong by hand.
 * Also that all goes over the chip: what is forgotten there is gone behind a mount.
 */
public final class WatchTest {
    private static int wrong = 0;

    private static void due(String what, long got, long due) {
        if (got != due) {
            wrong++;
            System.out.println(what + ": " + got + ", due is " + due);
        }
    }

    private static Object field(Object of, String name) throws Exception {
        Field f = of.getClass().getDeclaredField(name);
        f.setAccessible(true);
        return f.get(of);
    }

    private static void set(Object of, String name, int value) throws Exception {
        Field f = of.getClass().getDeclaredField(name);
        f.setAccessible(true);
        f.setInt(of, value);
    }

    private static int commit(FlashVault v, int key, int n) {
        int t = v.begin();
        v.fill(key, n);
        v.put(t, Math.min(40, n));
        return v.commit(t);
    }

    private static FlashVault loaded() {
        FlashVault v = new FlashVault(0);
        for (int i = 0; i < 5; i++) {
            commit(v, 10 + i, 100);
        }
        v.flush();
        commit(v, 20, 100);
        due("loaded", v.check(), 6);
        return v;
    }

    private static int get(FlashVault v, int key) {
        int t = v.begin();
        v.fill(key, 40);
        int n = v.get(t);
        v.abort(t);
        return n;
    }

    private static byte[] cells(FlashVault v) throws Exception {
        return (byte[]) field(field(v, "chip"), "cells");
    }

    private static int find(byte[] cells, int b) {
        for (int i = 2 * 2048; i < cells.length; i++) {
            if (cells[i] == b) {
                return i;
            }
        }
        throw new Error("no such byte");
    }

    private static void recordsAreOnTheChip() throws Exception {
        FlashVault v = loaded();
        byte[] cells = cells(v);
        // the first byte 12 on the chip may be of a head: take one in the midst of the key
        int at = find(cells, 12);
        while (cells[at + 5] != 12) {
            at++;
        }
        cells[at + 5] = 99;
        due("a record that changed: check", v.check(), -1);
        due("a record that changed: faults before", v.faults(1), 0);
        get(v, 12);
        due("a record that changed: faults", v.faults(1), 1);
        get(v, 13);
        due("one beside it: faults", v.faults(1), 1);
        v.mount();
        due("mount forgets no fault, and finds it again", v.faults(1), 2);
    }

    private static void valuesComeFromTheChip() throws Exception {
        FlashVault v = loaded();
        byte[] cells = cells(v);
        int at = find(cells, 12);
        while (cells[at + 45] != 12) {
            at++;
        }
        cells[at + 45] = 99;
        due("a value that changed", get(v, 12), 60);
        boolean seen = false;
        for (int i = 0; i < 60; i++) {
            seen |= v.word(i) >>> 56 == 99;
        }
        due("is seen changed", seen ? 1 : 0, 1);
    }

    private static void tablesAreOnTheChip() throws Exception {
        FlashVault v = loaded();
        Object layout = field(v, "layout");
        Object run = ((Object[]) field(layout, "runs"))[0];
        int block = ((int[]) field(run, "ids"))[0];
        byte[] cells = cells(v);
        cells[block * 2048 + 3]++;
        due("a table that changed: check", v.check(), -1);
        cells[block * 2048 + 3]--;
        due("a table as it was: check", v.check(), 6);
        java.util.Arrays.fill(cells, (byte) 255);
        due("an empty chip: check", v.check(), -1);
        due("an empty chip: mount", v.mount(), 0);
        due("an empty chip: keys", v.count(5), 0);
    }

    private static void writtenTwice() throws Exception {
        FlashVault v = loaded();
        set(field(v, "layout"), "top", 7);
        commit(v, 30, 60);
        due("bytes written twice", v.faults(0), 69 + 1 + 9);
        v.mount();
        due("bytes written twice, behind mount", v.faults(0), 69 + 1 + 9);
    }

    private static void heavyClearing() throws Exception {
        FlashVault v = loaded();
        Object versions = field(v, "versions");
        // told as pieces, whose keys NEEDED does not count, the records weigh more than they should
        byte[] keys = (byte[]) field(versions, "keys");
        for (int slot = 0; slot < 6; slot++) {
            due("a user's key", keys[slot * 41], 0);
        }
        int[] order = (int[]) field(versions, "order");
        int size = (int) field(versions, "size");
        for (int p = 0; p < size; p++) {
            keys[order[p] * 41] = 2;
        }
        v.collect();
        due("clearings that wrote more than was needed", v.faults(2), 1);
    }

    private static void grownMerge() throws Exception {
        FlashVault v = loaded();
        Object layout = field(v, "layout");
        set(((Object[]) field(layout, "runs"))[0], "length", 1);
        v.compact(true);
        due("merges that wrote more than they read", v.faults(3), 1);
    }

    private static void takenNotFree() throws Exception {
        FlashVault v = loaded();
        Object layout = field(v, "layout");
        boolean[] used = (boolean[]) field(layout, "used");
        int block = ((int[]) field(layout, "logs"))[0];
        used[block] = false;
        due("a block that is in use and told free: check", v.check(), -1);
        set(layout, "turn", block);
        v.flush();
        due("blocks taken and not free", v.faults(4), 1);
    }

    private static void noBlock() throws Exception {
        FlashVault v = loaded();
        boolean[] used = (boolean[]) field(field(v, "layout"), "used");
        java.util.Arrays.fill(used, true);
        int thrown = 0;
        try {
            v.flush();
        } catch (IllegalStateException e) {
            thrown = 1;
        }
        due("no block: thrown", thrown, 1);
        due("no block", v.faults(5), 1);
        due("what was done is there", v.mount(), 6);
        due("and sound", v.check(), 6);
    }

    public static void main(String[] args) throws Exception {
        recordsAreOnTheChip();
        valuesComeFromTheChip();
        tablesAreOnTheChip();
        writtenTwice();
        heavyClearing();
        grownMerge();
        takenNotFree();
        noBlock();
        System.out.println(wrong == 0 ? "the watch sees what is wrong" : wrong + " answers are not as due");
        if (wrong != 0) {
            System.exit(1);
        }
    }
}
