/** What the tests share: counting wrong answers, feeding texts, reading lines back. */
final class Checks {
    private int wrong = 0;
    private int asked = 0;

    void due(String what, long got, long want) {
        asked++;
        if (got != want) {
            wrong++;
            System.out.println(what + " answered " + got + ", due is " + want);
        }
    }

    void due(String what, String got, String want) {
        asked++;
        if (!got.equals(want)) {
            wrong++;
            System.out.println(what + " answered <" + got + ">, due is <" + want + ">");
        }
    }

    boolean isClean() {
        return wrong == 0;
    }

    void finish(String test) {
        System.out.println(test + ": " + asked + " answers, " + wrong + " wrong");
        if (wrong != 0) {
            System.exit(1);
        }
    }

    static LineMill mill(String text) {
        LineMill mill = new LineMill();
        feed(mill, text);
        return mill;
    }

    static int feed(LineMill mill, String text) {
        int answer = 0;
        for (int from = 0; from < text.length(); from += 8) {
            int n = Math.min(8, text.length() - from);
            answer = mill.feed(word(text, from), n);
        }
        return answer;
    }

    /** Eight bytes from a place on, 0 behind the end. */
    static long word(String text, int from) {
        long word = 0;
        for (int i = 0; i < 8 && from + i < text.length(); i++) {
            word |= (long) text.charAt(from + i) << (8 * i);
        }
        return word;
    }

    /** Makes the text n bytes long by doubling what stands from a place on. */
    static void grow(LineMill mill, int from, int has, int n) {
        int now = has;
        for (int step = 0; step < 20 && now > from && now < n; step++) {
            now = mill.again(from, Math.min(now - from, n - now));
        }
        if (now != n) {
            throw new IllegalStateException("the text came to " + now + " bytes, not " + n);
        }
    }

    static String spelled(LineMill mill, int i) {
        int bytes = mill.token(i, 2);
        StringBuilder out = new StringBuilder();
        for (int j = 0; j < bytes; j++) {
            out.append((char) (mill.spelling(i, j / 8) >>> (8 * (j % 8)) & 255));
        }
        return out.toString();
    }

    /** The next line: its answer, then each token as kind, line, before (* if so), spelling. */
    static String line(LineMill mill) {
        int n = mill.next();
        StringBuilder out = new StringBuilder().append(n);
        for (int i = 0; i < n; i++) {
            out.append(' ').append(mill.token(i, 0)).append(':').append(mill.token(i, 1));
            out.append(mill.token(i, 3) == 1 ? '*' : '.').append(spelled(mill, i));
        }
        return out.toString();
    }

    /** Spellings alone, with a bar between them. */
    static String cut(String text) {
        LineMill mill = mill(text);
        int n = mill.next();
        StringBuilder out = new StringBuilder();
        for (int i = 0; i < n; i++) {
            out.append(i == 0 ? "" : "|").append(spelled(mill, i));
        }
        return out.toString();
    }
}
