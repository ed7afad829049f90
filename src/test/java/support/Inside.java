import java.lang.reflect.Field;

/** Looks into a vault: for what the document says of the chip and cannot be asked from outside. */
public final class Inside {
    private static Field field(Object of, String name) {
        try {
            Field f = of.getClass().getDeclaredField(name);
            f.setAccessible(true);
            return f;
        } catch (NoSuchFieldException e) {
            throw new Error(e);
        }
    }

    /** The path goes from field to field. */
    static Object get(Object of, String... path) {
        Object at = of;
        try {
            for (String name : path) {
                at = field(at, name).get(at);
            }
            return at;
        } catch (IllegalAccessException e) {
            throw new Error(e);
        }
    }

    static int number(Object of, String... path) {
        return (int) get(of, path);
    }

    static void set(Object of, String name, int value) {
        try {
            field(of, name).setInt(of, value);
        } catch (IllegalAccessException e) {
            throw new Error(e);
        }
    }

    /** How many bytes were written on the chip, and not erased since. */
    static int written(FlashVault v) {
        int sum = 0;
        for (int top : (int[]) get(v, "chip", "tops")) {
            sum += top;
        }
        return sum;
    }

    /** The blocks of the log. */
    static int[] logs(FlashVault v) {
        return java.util.Arrays.copyOf((int[]) get(v, "layout", "logs"), number(v, "layout", "logCount"));
    }

    static int tables(FlashVault v) {
        return number(v, "layout", "runCount");
    }

    static int tableBlocks(FlashVault v) {
        int n = 0;
        for (int i = 0; i < tables(v); i++) {
            n += number(((Object[]) get(v, "layout", "runs"))[i], "idCount");
        }
        return n;
    }

    /** The first block of the newest table. */
    static int tableBlock(FlashVault v) {
        return ((int[]) get(((Object[]) get(v, "layout", "runs"))[0], "ids"))[0];
    }

    /** How many bytes behind what was written of a block are not erased. */
    static int notErased(FlashVault v) {
        byte[] cells = (byte[]) get(v, "chip", "cells");
        int[] tops = (int[]) get(v, "chip", "tops");
        int n = 0;
        for (int i = 0; i < cells.length; i++) {
            n += i % 2048 >= tops[i / 2048] && cells[i] != (byte) 255 ? 1 : 0;
        }
        return n;
    }

    /** How many versions no table tells of. */
    static int alone(FlashVault v) {
        return number(v, "versions", "aloneCount");
    }
}
