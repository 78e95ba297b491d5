import java.nio.charset.StandardCharsets;

/** What the tests share: comparing an answer with the one that is due, and feeding texts. */
final class Check {
    private static int wrong = 0;
    private static int asked = 0;

    private Check() {
    }

    static void due(String call, long got, long want) {
        asked++;
        if (got != want) {
            wrong++;
            System.out.println(call + " answered " + got + ", due is " + want);
        }
    }

    static int wrong() {
        return wrong;
    }

    /** Tells how it went, and ends the program. */
    static void end(String name) {
        System.out.println(name + ": " + asked + " answers, " + wrong + " not as due");
        System.exit(wrong == 0 ? 0 : 1);
    }

    static int[] bytes(String text) {
        byte[] raw = text.getBytes(StandardCharsets.ISO_8859_1);
        int[] all = new int[raw.length];
        for (int i = 0; i < raw.length; i++) {
            all[i] = raw[i] & 255;
        }
        return all;
    }

    /** Lays bytes on an empty tape. */
    static void tape(OverByTens x, int... all) {
        for (int at = 0; at < all.length; at += 20) {
            x.feed(four(all, at), four(all, at + 4), four(all, at + 8), four(all, at + 12), four(all, at + 16));
        }
        due("end of a tape of " + all.length, x.end(all.length), all.length);
    }

    static int four(int[] all, int at) {
        int number = 0;
        for (int i = at; i < at + 4; i++) {
            number = number << 8 | (i < all.length ? all[i] & 255 : 0);
        }
        return number;
    }

    static int law(OverByTens x, String text) {
        tape(x, bytes(text));
        return x.law();
    }

    static int orders(OverByTens x, String text) {
        tape(x, bytes(text));
        return x.orders();
    }

    /** Puts a law in force on an object that has room for it. */
    static void rule(OverByTens x, String text) {
        int number = law(x, text);
        due("law " + text, number, x.count(5) - 1);
        x.force(number);
        due("force of " + text, x.count(13), number);
    }

    static String times(int n, String piece, String between) {
        StringBuilder all = new StringBuilder();
        for (int i = 0; i < n; i++) {
            all.append(i == 0 ? "" : between).append(piece);
        }
        return all.toString();
    }
}
