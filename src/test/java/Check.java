import java.nio.charset.StandardCharsets;

/** What the tests share: comparing an answer with the one that is due, and feeding texts. */
final class Check {
    private static String sentence = "";
    private static int wrong = 0;
    private static int asked = 0;

    private Check() {
    }

    /** The sentence of the document that the answers from here on hold. */
    static void says(String words) {
        sentence = words + ": ";
    }

    static void due(String call, long got, long want) {
        asked++;
        if (got != want) {
            wrong++;
            System.out.println(sentence + call + " answered " + got + ", due is " + want);
        }
    }

    static int wrong() {
        return wrong;
    }

    /** Tells how it went, and ends the program. */
    static void end(String name) {
        System.out.println(name + ": " + asked + " answers, " + wrong + " not as due");
        System.exit(wrong == 0 ? 0 : 1);
    }

    static int[] bytes(String text) {
        byte[] raw = text.getBytes(StandardCharsets.ISO_8859_1);
        int[] all = new int[raw.length];
        for (int i = 0; i < raw.length; i++) {
            all[i] = raw[i] & 255;
        }
        return all;
    }

    /** Lays bytes on an empty tape. */
    static void tape(Used x, int... all) {
        for (int at = 0; at < all.length; at += 20) {
            x.feed(four(all, at), four(all, at + 4), four(all, at + 8), four(all, at + 12), four(all, at + 16));
        }
        due("end of a tape of " + all.length, x.end(all.length), all.length);
    }

    static int four(int[] all, int at) {
        int number = 0;
        for (int i = at; i < at + 4; i++) {
            number = number << 8 | (i < all.length ? all[i] & 255 : 0);
        }
        return number;
    }

    static int law(Used x, String text) {
        tape(x, bytes(text));
        return x.law();
    }

    static int orders(Used x, String text) {
        tape(x, bytes(text));
        return x.orders();
    }

    /** Puts a law in force on an object that has room for it. */
    static void rule(Used x, String text) {
        int number = law(x, text);
        due("law " + text, number, x.count(5) - 1);
        x.force(number);
        due("force of " + text, x.count(13), number);
    }

    static Used lone(int count) {
        Used x = new Used();
        x.parish(OverByTens.NONE, count);
        return x;
    }

    /**
     * A parish at the sea without people, from which 99,990 have walked, all of
     * whom came there; by its law nearly 99 of many walk, and all of up to 98.
     */
    static Used worn() {
        Used x = lone(0);
        rule(x, "tens count/[count/99+1]+1");
        String part = "grow0by99times10;reckon0times16;pass";
        for (int i = 0; i < 25; i++) {
            due("orders of many", orders(x, times(4, part, ";")), 4 * 27);
        }
        due("orders of many more", orders(x, part), 27);
        return x;
    }

    /** All that images keep and that calls tell plainly, as a text to compare. */
    static String seen(Used x) {
        StringBuilder all = new StringBuilder();
        for (int p = 0; p < 10; p++) {
            for (int what = 0; what < 4; what++) {
                all.append(x.of(p, what)).append(' ');
            }
        }
        for (int k = 0; k < x.count(1); k++) {
            all.append(x.group(k, 0)).append(' ').append(x.group(k, 1)).append(' ').append(x.group(k, 2)).append(' ');
        }
        for (int what : new int[] {0, 1, 2, 3, 4, 5, 6, 13, 14, 15, 16, 17}) {
            all.append(x.count(what)).append(' ');
        }
        return all.toString();
    }

    static String times(int n, String piece, String between) {
        StringBuilder all = new StringBuilder();
        for (int i = 0; i < n; i++) {
            all.append(i == 0 ? "" : between).append(piece);
        }
        return all.toString();
    }
}
