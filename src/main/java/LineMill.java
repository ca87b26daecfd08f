/**
 * Cuts a text into logical lines and these into tokens, as it is done before a
 * compiler of the language C sees it.
 */
public final class LineMill {
    public static final int BAD = -1, NONE = -2, FULL = -3;

    private static final int MOST_BYTES = 32768;
    private static final int MOST_TOKENS = 8000;
    private static final int MOST_LINES = 20000;
    private static final int MOST_OPEN_QUOTES = 1000;

    private static final int NO_FAULT = 0, COMMENT_FAULT = 1, ROOM_FAULT = 21;
    private static final int FAULT_BASE = -10;

    private static final int NAME = 1, NUMBER = 2, TEXT = 3, CHARACTER = 4, SIGN = 5, OTHER = 6;

    private static final int LF = 10, TEXT_QUOTE = 34, CHARACTER_QUOTE = 39, BACKSLASH = 92;
    private static final int NO_BYTE = -1, NO_END = -1;

    private static final String SIGNS_OF_3 = "...<<=>>=";
    private static final String SIGNS_OF_2 = "->++--<<>><=>===!=&&||*=/=%=+=-=&=^=|=##";
    private static final String SIGNS_OF_1 = "#[](){}.&*+-~!/%<>^|?:;=,";

    // Where a token's parts stand in its long: the start in the text is lowest.
    private static final int BYTES_SHIFT = 16, LINE_SHIFT = 32, KIND_SHIFT = 48, BEFORE_SHIFT = 52;
    private static final int PART_MASK = 65535, KIND_MASK = 15;

    // Both rows are packed because a run's room counts elements, whatever their width:
    // eight bytes of the text in a long, and one long for a whole token.
    private final long[] text = new long[MOST_BYTES / 8];
    private final long[] tokens = new long[MOST_TOKENS];

    private int length;

    private int at;
    private int line;
    private int tokenLines;
    private int openQuotes;
    private int faultLine;
    private boolean stopped;

    private int count;

    // Of the line that is being cut; found goes on beyond the row of tokens, since a
    // comment or quote behind the 8001st token is the fault that is told.
    private int found;
    private boolean before;
    private int firstLine;
    private int excessLine;

    // Up to these places no quote of the kind has an end (see quoteEnd).
    private int openTextsUpTo;
    private int openCharactersUpTo;

    public LineMill() {
        restart();
    }

    public int feed(long bytes, int n) {
        if (n < 1 || n > 8) {
            return BAD;
        }
        if (length + n > MOST_BYTES) {
            return FULL;
        }
        for (int i = 0; i < n; i++) {
            append((int) (bytes >>> (8 * i)) & 255);
        }
        return length;
    }

    public int again(int from, int n) {
        if (from < 0 || n < 1 || n > length || from > length - n) {
            return BAD;
        }
        if (length + n > MOST_BYTES) {
            return FULL;
        }
        for (int i = 0; i < n; i++) {
            append(byteAt(from + i));
        }
        return length;
    }

    public int clear() {
        int had = length;
        length = 0;
        restart();
        return had;
    }

    public void begin() {
        restart();
    }

    public int next() {
        count = 0;
        if (stopped) {
            return NONE;
        }
        pass(leftFrom(at));
        if (at >= length) {
            return NONE;
        }
        openLine();
        int fault = NO_FAULT;
        boolean ended = false;
        // Every turn passes a byte at least.
        for (int turn = 0; turn < MOST_BYTES && at < length && !ended && fault == NO_FAULT; turn++) {
            ended = byteAt(at) == LF;
            fault = cutPiece();
        }
        if (fault == NO_FAULT) {
            fault = closeLine();
        }
        return fault == NO_FAULT ? count : FAULT_BASE - fault;
    }

    public int told(int what) {
        switch (what) {
            case 0: return isDirective() ? 1 : 0;
            case 1: return tokenLines;
            case 2: return faultLine;
            case 3: return stopped ? 0 : line;
            default: return BAD;
        }
    }

    public int token(int i, int what) {
        if (!isAtHand(i)) {
            return BAD;
        }
        long packed = tokens[i];
        switch (what) {
            case 0: return (int) (packed >>> KIND_SHIFT) & KIND_MASK;
            case 1: return (int) (packed >>> LINE_SHIFT) & PART_MASK;
            case 2: return bytesOf(packed);
            case 3: return (int) (packed >>> BEFORE_SHIFT) & 1;
            case 4: return i == 0 ? 1 : 0;
            default: return BAD;
        }
    }

    public long spelling(int i, int k) {
        if (!isAtHand(i) || k < 0) {
            return 0;
        }
        int bytes = bytesOf(tokens[i]);
        if (k > bytes / 8) {
            return 0;
        }
        // What was fed since can't change what is read here: only a token that is a 92 alone
        // ends with one, and the first byte is read without a look at what follows it.
        int p = startOf(tokens[i]);
        for (int skipped = 0; skipped < 8 * k; skipped++) {
            p = leftFrom(p + 1);
        }
        long word = 0;
        for (int j = 0; j < 8 && 8 * k + j < bytes; j++) {
            word |= (byteAt(p) & 255L) << (8 * j);
            p = leftFrom(p + 1);
        }
        return word;
    }

    private void restart() {
        at = 0;
        line = 1;
        tokenLines = 0;
        openQuotes = 0;
        faultLine = 0;
        stopped = false;
        count = 0;
    }

    private void append(int value) {
        int word = length >> 3;
        if (word < 0 || word >= text.length) {
            return;
        }
        int shift = (length & 7) << 3;
        text[word] = (text[word] & ~(255L << shift)) | ((value & 255L) << shift);
        length++;
    }

    private int byteAt(int p) {
        int word = p >> 3;
        if (p < 0 || p >= length || word >= text.length) {
            return NO_BYTE;
        }
        return (int) (text[word] >>> ((p & 7) << 3)) & 255;
    }

    /** The place of the first byte from p on that splicing leaves. */
    private int leftFrom(int p) {
        int q = p;
        while (q + 1 < length && byteAt(q) == BACKSLASH && byteAt(q + 1) == LF) {
            q += 2;
        }
        return q;
    }

    /** Goes on to a place that leftFrom told: how many bytes were left on the way. */
    private int pass(int stop) {
        int bytes = 0;
        while (at < stop) {
            int left = leftFrom(at);
            line += (left - at) / 2;
            at = left;
            if (at < stop) {
                line += byteAt(at) == LF ? 1 : 0;
                bytes++;
                at++;
            }
        }
        return bytes;
    }

    private void openLine() {
        found = 0;
        before = true;
        openTextsUpTo = 0;
        openCharactersUpTo = 0;
    }

    private int closeLine() {
        if (found == 0) {
            return NO_FAULT;
        }
        if (tokenLines >= MOST_LINES) {
            return stopAt(firstLine, ROOM_FAULT);
        }
        tokenLines++;
        if (found > MOST_TOKENS) {
            return stopAt(excessLine, ROOM_FAULT);
        }
        count = found;
        return NO_FAULT;
    }

    private int stopAt(int badLine, int fault) {
        stopped = true;
        faultLine = badLine;
        return fault;
    }

    /** Passes a blank, a comment, a token or the LF of the line: the fault, if it is one. */
    private int cutPiece() {
        int first = byteAt(at);
        int behind = leftFrom(at + 1);
        int second = byteAt(behind);
        if (first == LF) {
            // No splice behind the LF is passed: the next line begins with it.
            return passBlank(at + 1);
        }
        if (isBlank(first)) {
            return passBlank(behind);
        }
        if (first == '/' && second == '*') {
            return passComment(leftFrom(behind + 1));
        }
        if (first == '/' && second == '/') {
            return passBlank(lineEnd(behind));
        }
        if (isQuote(first)) {
            return cutQuote(first);
        }
        if (first == 'L' && isQuote(second)) {
            return cutWide(behind, second);
        }
        if (isLetter(first)) {
            return addToken(NAME, nameEnd(behind));
        }
        if (isDigit(first) || first == '.' && isDigit(second)) {
            return addToken(NUMBER, numberEnd(behind, first));
        }
        return cutSign(first, second, behind);
    }

    private int passBlank(int stop) {
        pass(stop);
        before = true;
        return NO_FAULT;
    }

    private int passComment(int inside) {
        int stop = commentEnd(inside);
        if (stop == NO_END) {
            return stopAt(line, COMMENT_FAULT);
        }
        return passBlank(stop);
    }

    private int cutQuote(int quote) {
        int stop = quoteEnd(at, quote);
        if (stop != NO_END) {
            return addToken(kindOfQuote(quote), stop);
        }
        if (openQuotes >= MOST_OPEN_QUOTES) {
            return stopAt(line, ROOM_FAULT);
        }
        openQuotes++;
        return addToken(OTHER, leftFrom(at + 1));
    }

    private int cutWide(int quotePlace, int quote) {
        int stop = quoteEnd(quotePlace, quote);
        if (stop == NO_END) {
            return addToken(NAME, quotePlace);
        }
        return addToken(kindOfQuote(quote), stop);
    }

    private int cutSign(int first, int second, int behind) {
        int secondBehind = leftFrom(behind + 1);
        int third = byteAt(secondBehind);
        if (hasSign(SIGNS_OF_3, 3, first, second, third)) {
            return addToken(SIGN, leftFrom(secondBehind + 1));
        }
        if (hasSign(SIGNS_OF_2, 2, first, second, third)) {
            return addToken(SIGN, secondBehind);
        }
        boolean sign = hasSign(SIGNS_OF_1, 1, first, second, third);
        return addToken(sign ? SIGN : OTHER, behind);
    }

    private int addToken(int kind, int stop) {
        int start = at;
        int startLine = line;
        int bytes = pass(stop);
        if (found == 0) {
            firstLine = startLine;
        }
        if (found >= 0 && found < tokens.length) {
            tokens[found] = start
                | (long) bytes << BYTES_SHIFT
                | (long) startLine << LINE_SHIFT
                | (long) kind << KIND_SHIFT
                | (before ? 1L : 0L) << BEFORE_SHIFT;
        } else if (found == MOST_TOKENS) {
            excessLine = startLine;
        }
        found++;
        before = false;
        return NO_FAULT;
    }

    private int commentEnd(int inside) {
        int q = inside;
        boolean star = false;
        while (q < length) {
            int value = byteAt(q);
            q = leftFrom(q + 1);
            if (star && value == '/') {
                return q;
            }
            star = value == '*';
        }
        return NO_END;
    }

    private int lineEnd(int p) {
        int q = p;
        while (q < length && byteAt(q) != LF) {
            q = leftFrom(q + 1);
        }
        return q;
    }

    /**
     * The place behind the quote that ends the one at p. When there is none, every
     * later one of this kind in the line stands behind a 92 that this search met, so
     * its own search would go on just as this one did: none of them has an end, and
     * to keep where the line ends saves searching it once more for each.
     */
    private int quoteEnd(int p, int quote) {
        boolean isText = quote == TEXT_QUOTE;
        if (p < (isText ? openTextsUpTo : openCharactersUpTo)) {
            return NO_END;
        }
        int q = leftFrom(p + 1);
        while (q < length && byteAt(q) != LF) {
            int value = byteAt(q);
            q = leftFrom(q + 1);
            if (value == quote) {
                return q;
            }
            // An LF ends the line even behind a 92 that splicing left.
            if (value == BACKSLASH && q < length && byteAt(q) != LF) {
                q = leftFrom(q + 1);
            }
        }
        if (isText) {
            openTextsUpTo = q;
        } else {
            openCharactersUpTo = q;
        }
        return NO_END;
    }

    private int nameEnd(int p) {
        int q = p;
        while (q < length && (isLetter(byteAt(q)) || isDigit(byteAt(q)))) {
            q = leftFrom(q + 1);
        }
        return q;
    }

    private int numberEnd(int p, int first) {
        int q = p;
        int last = first;
        while (q < length && goesOnNumber(byteAt(q), last)) {
            last = byteAt(q);
            q = leftFrom(q + 1);
        }
        return q;
    }

    private boolean isAtHand(int i) {
        return i >= 0 && i < count && i < tokens.length;
    }

    private boolean isDirective() {
        return isAtHand(0) && bytesOf(tokens[0]) == 1 && byteAt(startOf(tokens[0])) == '#';
    }

    private static int startOf(long packed) {
        return (int) packed & PART_MASK;
    }

    private static int bytesOf(long packed) {
        return (int) (packed >>> BYTES_SHIFT) & PART_MASK;
    }

    private static boolean goesOnNumber(int value, int last) {
        if (value == '+' || value == '-') {
            return last == 'e' || last == 'E' || last == 'p' || last == 'P';
        }
        return isDigit(value) || isLetter(value) || value == '.';
    }

    private static boolean isLetter(int value) {
        return value >= 'A' && value <= 'Z' || value >= 'a' && value <= 'z' || value == '_';
    }

    private static boolean isDigit(int value) {
        return value >= '0' && value <= '9';
    }

    private static boolean isBlank(int value) {
        return value == 32 || value == 9 || value >= 11 && value <= 13;
    }

    private static boolean isQuote(int value) {
        return value == TEXT_QUOTE || value == CHARACTER_QUOTE;
    }

    private static int kindOfQuote(int quote) {
        return quote == TEXT_QUOTE ? TEXT : CHARACTER;
    }

    private static boolean hasSign(String signs, int width, int first, int second, int third) {
        for (int i = 0; i + width <= signs.length(); i += width) {
            if (signs.charAt(i) == first
                && (width < 2 || signs.charAt(i + 1) == second)
                && (width < 3 || signs.charAt(i + 2) == third)) {
                return true;
            }
        }
        return false;
    }
}
