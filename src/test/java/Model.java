import java.util.ArrayList;
import java.util.List;
import java.util.regex.Matcher;
import java.util.regex.Pattern;

/**
 * The document in its own phases, with regular expressions and no care for speed:
 * splice what is left of the text, find comments and quotes, cut off the line, cut tokens.
 */
final class Model {
    record Token(int kind, int line, boolean before, String spelling) { }

    /** A byte, a whole comment or a whole quoted token of the spliced text. */
    private record Atom(char mark, String bytes, int place) { }

    private static final char QUOTED = '\ue000', OPEN = '\ue001', COMMENT = '\ue002';
    private static final Pattern ATOM = Pattern.compile(
        "(?<comment>/\\*.*?\\*/|//[^\n]*)|(?<endless>/\\*)"
        + "|(?<quoted>\"(?:\\\\[^\n]|[^\"\\\\\n])*\"|'(?:\\\\[^\n]|[^'\\\\\n])*')"
        + "|(?<open>[\"'])|(?<byte>.)", Pattern.DOTALL);
    private static final Pattern TOKEN = Pattern.compile(
        "(?<blank>[ \t\u000b\f\r\ue002]+)|(?<quoted>L?\ue000)|(?<name>[A-Za-z_][A-Za-z_0-9]*)"
        + "|(?<number>\\.?[0-9](?:[eEpP][+-]|[0-9A-Za-z_.])*)"
        + "|(?<sign>\\.\\.\\.|<<=|>>=|->|\\+\\+|--|<<|>>|<=|>=|==|!=|&&|\\|\\||[*/%+\\-&^|]=|##"
        + "|[#\\[\\](){}.&*+\\-~!/%<>^|?:;=,])|(?<other>.)", Pattern.DOTALL);

    final StringBuilder text = new StringBuilder();
    List<Token> line = new ArrayList<>();
    private int at, tokenLines, openQuotes, faultLine;
    private boolean stopped;

    int feed(String bytes) {
        if (text.length() + bytes.length() > 32768) {
            return -3;
        }
        text.append(bytes);
        return text.length();
    }

    int again(int from, int n) {
        if (from < 0 || n < 1 || (long) from + n > text.length()) {
            return -1;
        }
        return feed(text.substring(from, from + n));
    }

    int clear() {
        int had = text.length();
        text.setLength(0);
        begin();
        return had;
    }

    void begin() {
        at = tokenLines = openQuotes = faultLine = 0;
        stopped = false;
        line = new ArrayList<>();
    }

    int next() {
        line = new ArrayList<>();
        if (stopped) {
            return -2;
        }
        List<Integer> places = new ArrayList<>();
        String left = splice(places);
        if (left.isEmpty()) {
            at = text.length();
            return -2;
        }
        List<Atom> atoms = new ArrayList<>();
        int fault = readLine(left, places, atoms);
        if (fault != 0) {
            return -10 - fault;
        }
        List<Token> tokens = cut(atoms);
        if (!tokens.isEmpty()) {
            if (tokenLines == 20000) {
                return -10 - stop(tokens.get(0).line(), 21);
            }
            tokenLines++;
            if (tokens.size() > 8000) {
                return -10 - stop(tokens.get(8000).line(), 21);
            }
        }
        line = tokens;
        return tokens.size();
    }

    int told(int what) {
        switch (what) {
            case 0: return !line.isEmpty() && line.get(0).spelling().equals("#") ? 1 : 0;
            case 1: return tokenLines;
            case 2: return faultLine;
            case 3: return stopped ? 0 : lineAt(at);
            default: return -1;
        }
    }

    int token(int i, int what) {
        if (i < 0 || i >= line.size()) {
            return -1;
        }
        Token token = line.get(i);
        switch (what) {
            case 0: return token.kind();
            case 1: return token.line();
            case 2: return token.spelling().length();
            case 3: return token.before() ? 1 : 0;
            case 4: return i == 0 ? 1 : 0;
            default: return -1;
        }
    }

    long spelling(int i, int k) {
        boolean none = i < 0 || i >= line.size() || k < 0 || k > 5000;
        return none ? 0 : Checks.word(line.get(i).spelling(), 8 * k);
    }

    private String splice(List<Integer> places) {
        StringBuilder left = new StringBuilder();
        for (int p = at; p < text.length(); p++) {
            if (text.charAt(p) == '\\' && p + 1 < text.length() && text.charAt(p + 1) == '\n') {
                p++;
            } else {
                left.append(text.charAt(p));
                places.add(p);
            }
        }
        return left.toString();
    }

    private int readLine(String left, List<Integer> places, List<Atom> atoms) {
        Matcher m = ATOM.matcher(left);
        while (m.find()) {
            int place = places.get(m.start());
            if (m.group("endless") != null) {
                return stop(lineAt(place), 1);
            }
            if (m.group("open") != null && ++openQuotes > 1000) {
                return stop(lineAt(place), 21);
            }
            if (m.group().equals("\n")) {
                at = place + 1;
                return 0;
            }
            char mark = m.group("comment") != null ? COMMENT : m.group("quoted") != null ? QUOTED
                : m.group("open") != null ? OPEN : m.group().charAt(0);
            atoms.add(new Atom(mark, m.group(), place));
        }
        at = text.length();
        return 0;
    }

    private List<Token> cut(List<Atom> atoms) {
        StringBuilder marks = new StringBuilder();
        for (Atom atom : atoms) {
            marks.append(atom.mark());
        }
        List<Token> tokens = new ArrayList<>();
        boolean before = true;
        Matcher m = TOKEN.matcher(marks);
        while (m.find()) {
            if (m.group("blank") == null) {
                tokens.add(tokenOf(m, atoms.subList(m.start(), m.end()), before));
            }
            before = m.group("blank") != null;
        }
        return tokens;
    }

    private Token tokenOf(Matcher m, List<Atom> atoms, boolean before) {
        StringBuilder spelling = new StringBuilder();
        for (Atom atom : atoms) {
            spelling.append(atom.bytes());
        }
        int kind = m.group("name") != null ? 1 : m.group("number") != null ? 2
            : m.group("quoted") != null ? (spelling.charAt(spelling.length() - 1) == '"' ? 3 : 4)
            : m.group("sign") != null ? 5 : 6;
        return new Token(kind, lineAt(atoms.get(0).place()), before, spelling.toString());
    }

    private int stop(int badLine, int fault) {
        stopped = true;
        faultLine = badLine;
        return fault;
    }

    private int lineAt(int place) {
        return 1 + (int) text.substring(0, place).chars().filter(c -> c == '\n').count();
    }
}
