/** Runs of calls on texts of many pieces, each answer held against the model's. */
public final class ModelTest {
    private static final Checks checks = new Checks();
    private static final String[] PIECES = {
        "\\\n", "\\\n", "\\\n", "\n", "\n", "\n", "\\", "\\\\", "'", "'", "\"", "\"", "L", "L'", "L\"", "\\'", "\\\"",
        "/*", "*/", "/*", "*/", "//", "/", "*", "/**/", " ", " ", "\t", "\r", "\f", "\u000b", "a", "L", "_", "Zz", "e", "E",
        "p", "P", "x1", "0", "9", "1.", ".5", "1e+", "0x1p-", ".", "..", "...", "+", "-", "<", ">", "=", "!", "&", "|", "%",
        "^", "#", "##", "~", "?", ":", ";", ",", "(", ")", "[", "]", "{", "}", "<<=", ">>=", "->", "@", "$", "`",
        "\u0000", "\u007f", "\u0080", "\u00ff", "'a'", "\"b\"", "L'c'", "' /* '", "# define x"};

    private static final String NARROW = "\\\\\\\n\n''\"L/*a. 1e+";

    private static long seed = 20240229L;

    public static void main(String[] args) {
        for (int run = 0; run < 6000 && checks.isClean(); run++) {
            run(run);
        }
        checks.finish("ModelTest");
    }

    /** A plain generator of its own, so every machine runs the same calls. */
    private static int pick(int n) {
        seed = seed * 6364136223846793005L + 1442695040888963407L;
        return (int) ((seed >>> 33) % n);
    }

    private static String piece(int run) {
        if (run % 3 == 0) {
            return String.valueOf(NARROW.charAt(pick(NARROW.length())));
        }
        return PIECES[pick(run % 3 == 1 ? PIECES.length : 32)];
    }

    private static void run(int run) {
        LineMill mill = new LineMill();
        Model model = new Model();
        StringBuilder told = new StringBuilder("run ").append(run).append(": ");
        int calls = 1 + pick(40);
        for (int i = 0; i < calls && checks.isClean(); i++) {
            switch (pick(16)) {
                case 0:
                    checks.due(told.append("clear ") + "", mill.clear(), model.clear());
                    break;
                case 1:
                    mill.begin();
                    model.begin();
                    told.append("begin ");
                    break;
                case 2:
                    again(mill, model, told);
                    break;
                case 3: case 4: case 5: case 6: case 7: case 8:
                    feed(mill, model, told, run);
                    break;
                default:
                    checks.due(told.append("next ") + "", mill.next(), model.next());
            }
            compare(mill, model, told.toString());
        }
    }

    private static void again(LineMill mill, Model model, StringBuilder told) {
        int from = pick(30) - 2;
        int n = pick(30) - 2;
        told.append("again(").append(from).append(", ").append(n).append(") ");
        checks.due(told.toString(), mill.again(from, n), model.again(from, n));
    }

    private static void feed(LineMill mill, Model model, StringBuilder told, int run) {
        StringBuilder bytes = new StringBuilder();
        int pieces = 1 + pick(12);
        for (int i = 0; i < pieces; i++) {
            bytes.append(piece(run));
        }
        told.append("feed <").append(bytes).append("> ");
        checks.due(told.toString(), Checks.feed(mill, bytes.toString()), model.feed(bytes.toString()));
    }

    private static void compare(LineMill mill, Model model, String told) {
        for (int what = -1; what <= 4; what++) {
            checks.due(told + "told(" + what + ")", mill.told(what), model.told(what));
        }
        int tokens = model.line.size();
        for (int i = -1; i <= tokens; i++) {
            for (int what = -1; what <= 5; what++) {
                checks.due(told + "token(" + i + ", " + what + ")", mill.token(i, what), model.token(i, what));
            }
            int words = Math.max(0, model.token(i, 2)) / 8 + 1;
            for (int k = -1; k <= words; k++) {
                checks.due(told + "spelling(" + i + ", " + k + ")", mill.spelling(i, k), model.spelling(i, k));
            }
        }
    }
}
