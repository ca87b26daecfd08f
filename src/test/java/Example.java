/** Prints the lines of a C text, a single blank wherever something stands between two tokens. */
public final class Example {
    public static void main(String[] args) {
        LineMill mill = new LineMill();
        feed(mill, "#define TWICE(x) \\\n    ((x) * 2) // twice\n"
            + "int n = TWICE(.5e+3); /* over\nlines */ char *s = \"/* no\";\n"
            + "n /* without an end\n");
        int n = mill.next();
        for (; n >= 0; n = mill.next()) {
            print(mill, n);
        }
        if (n != LineMill.NONE) {
            System.out.println("fault " + (-10 - n) + " in line " + mill.told(2));
        }
    }

    private static void feed(LineMill mill, String text) {
        for (int from = 0; from < text.length(); from += 8) {
            int n = Math.min(8, text.length() - from);
            long bytes = 0;
            for (int i = 0; i < n; i++) {
                bytes |= (text.charAt(from + i) & 255L) << (8 * i);
            }
            mill.feed(bytes, n);
        }
    }

    private static void print(LineMill mill, int n) {
        StringBuilder out = new StringBuilder();
        for (int i = 0; i < n; i++) {
            out.append(mill.token(i, 3) == 1 ? " " : "").append(spelling(mill, i));
        }
        System.out.println((mill.told(0) == 1 ? "directive" : "line") + " of " + n + " tokens:" + out);
    }

    private static String spelling(LineMill mill, int i) {
        StringBuilder out = new StringBuilder();
        int bytes = mill.token(i, 2);
        long eight = 0;
        for (int j = 0; j < bytes; j++) {
            eight = j % 8 == 0 ? mill.spelling(i, j / 8) : eight >>> 8;
            out.append((char) (eight & 255));
        }
        return out.toString();
    }
}
