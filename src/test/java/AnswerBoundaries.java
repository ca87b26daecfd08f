/** Promises 6 to 9: what is answered of lines and tokens. */
final class AnswerBoundaries {
    private static final int LEAST = Integer.MIN_VALUE, MOST = Integer.MAX_VALUE;

    private final Book book;

    AnswerBoundaries(Book book) {
        this.book = book;
    }

    void run() {
        book.test("Promise 6", "Takes the next line: how many tokens it has", this::next);
        book.test("Promise 6", "NONE when nothing of the text is left", this::nextNone);
        book.test("Promise 6", "or behind a fault", this::nextBehindAFault);
        book.test("Promise 6", "-10 less the fault.", this::nextFault);
        book.test("Promise 7", "What = 0 whether the first token of the line at hand is a # alone (1, or 0)",
            this::toldDirective);
        book.test("Promise 7", "1 how many lines with tokens were taken since begin()", this::toldLines);
        book.test("Promise 7", "(also one with more than 8000 tokens; none with another fault)",
            this::toldLinesAtFaults);
        book.test("Promise 7", "2 the line of the latest fault (0 without one since begin())", this::toldFault);
        book.test("Promise 7", "3 the text's line at which the next one begins (0 behind a fault).", this::toldBegin);
        book.test("Promise 7", "BAD: what is none of these.", this::toldBad);
        book.test("Promise 7", "(No line is at hand before the first next()", this::noLineBeforeNext);
        book.test("Promise 7", "when it answered NONE", this::noLineBehindNone);
        book.test("Promise 7", "and behind a fault.)", this::noLineBehindAFault);
        book.test("Promise 8", "Of token i of the line at hand: its kind (what = 0): "
            + "1 a name, 2 a number, 3 a text, 4 a character, 5 a sign, 6 any other", this::tokenKind);
        book.test("Promise 8", "its line (1)", this::tokenLine);
        book.test("Promise 8", "how many bytes it has (2)", this::tokenBytes);
        book.test("Promise 8", "BEFORE (3)", this::tokenBefore);
        book.test("Promise 8", "whether it is the first one (4).", this::tokenFirst);
        book.test("Promise 8", "BAD: what is none of these", this::tokenBadWhat);
        book.test("Promise 8", "or there is no such token", this::tokenBadNumber);
        book.test("Promise 8", "(none behind a fault).", this::tokenBehindAFault);
        book.test("Promise 9", "Eight bytes of a token's spelling, from 8 k on, the first one lowest",
            this::spelling);
        book.test("Promise 9", "0 behind its end", this::spellingBehindTheEnd);
        book.test("Promise 9", "0 when there are none.", this::spellingOfNone);
    }

    private static LineMill taken(String text) {
        LineMill mill = Checks.mill(text);
        mill.next();
        return mill;
    }

    private static LineMill commentFault() {
        return taken("# a /*");
    }

    private static LineMill tokenFault() {
        LineMill mill = Checks.mill("#");
        Checks.grow(mill, 0, 1, 20000);
        mill.next();
        return mill;
    }

    private static LineMill quoteFault() {
        LineMill mill = Checks.mill("#'\\'");
        Checks.grow(mill, 2, 4, 2004);
        mill.next();
        return mill;
    }

    private void noLine(String what, LineMill mill) {
        book.due(what + ": told(0)", mill.told(0), 0);
        for (int i = -1; i <= 1; i++) {
            for (int of = 0; of <= 4; of++) {
                book.due(what + ": token(" + i + ", " + of + ")", mill.token(i, of), LineMill.BAD);
            }
            book.due(what + ": spelling(" + i + ", 0)", mill.spelling(i, 0), 0);
        }
    }

    private void next() {
        book.due("none", Checks.mill(" ").next(), 0);
        book.due("one", Checks.mill("a ").next(), 1);
        book.due("two", Checks.mill("a b").next(), 2);
        LineMill mill = Checks.mill("\na\n\nb c\n");
        int[] tokens = {0, 1, 0, 2, LineMill.NONE};
        for (int i = 0; i < tokens.length; i++) {
            book.due("line " + (i + 1), mill.next(), tokens[i]);
        }
        LineMill most = Checks.mill(";");
        Checks.grow(most, 0, 1, 7999);
        book.due("7999", most.next(), 7999);
        most.begin();
        most.feed(';', 1);
        book.due("8000", most.next(), 8000);
    }

    private void nextNone() {
        LineMill mill = new LineMill();
        book.due("an empty text", mill.next(), LineMill.NONE);
        mill.feed(' ', 1);
        book.due("a blank", mill.next(), 0);
        book.due("nothing behind the blank", mill.next(), LineMill.NONE);
        mill.feed('\n', 1);
        book.due("an LF", mill.next(), 0);
        book.due("nothing behind the LF", mill.next(), LineMill.NONE);
        book.due("nor later", mill.next(), LineMill.NONE);
        Checks.feed(mill, "\\\n");
        book.due("a splice leaves nothing", mill.next(), LineMill.NONE);
        Checks.feed(mill, "\\\n\n");
        book.due("a splice and an LF", mill.next(), 0);
        mill.feed(92, 1);
        book.due("a 92", mill.next(), 1);
        Checks.feed(mill, "/**/");
        book.due("a comment", mill.next(), 0);
        book.due("nothing behind the comment", mill.next(), LineMill.NONE);
        mill.feed('a', 1);
        book.due("a name", mill.next(), 1);
        mill.clear();
        book.due("a text that was cleared", mill.next(), LineMill.NONE);
    }

    private void nextBehindAFault() {
        LineMill[] mills = {commentFault(), quoteFault(), tokenFault()};
        for (int i = 0; i < mills.length; i++) {
            book.due("behind fault " + i, mills[i].next(), LineMill.NONE);
            Checks.feed(mills[i], "*/\na\n");
            book.due("with a line more behind fault " + i, mills[i].next(), LineMill.NONE);
        }
        LineMill before = Checks.mill("a\n/*");
        book.due("before the fault", before.next(), 1);
        book.due("the fault itself", before.next(), -11);
        book.due("behind the fault", before.next(), LineMill.NONE);
    }

    private void nextFault() {
        book.due("fault 1", Checks.mill("/*").next(), -11);
        book.due("no fault", Checks.mill("/**/").next(), 0);
        for (LineMill mill : new LineMill[] {quoteFault(), tokenFault()}) {
            mill.begin();
            book.due("fault 21", mill.next(), -31);
            mill.begin();
            book.due("fault 21 once more", mill.next(), -31);
        }
    }

    private void toldDirective() {
        for (String text : new String[] {"#", "# #", "#a", " #", "/**/#", "\\\n#", "#\\\n", "#'", "#//"}) {
            book.due("<" + text + ">", taken(text).told(0), 1);
        }
        String[] others = {"", " ", "a", "##", "###", "#\\\n#", "a #", "\"#\"", "'#'", "%:", "\"", "$", "\n#", "//#", "/*#*/"};
        for (String text : others) {
            book.due("<" + text + ">", taken(text).told(0), 0);
        }
        LineMill mill = Checks.mill("#\na\n#");
        int[] due = {1, 0, 1, 0};
        for (int i = 0; i < due.length; i++) {
            mill.next();
            book.due("line " + (i + 1), mill.told(0), due[i]);
        }
    }

    private void toldLines() {
        LineMill mill = Checks.mill("a\n\n \n/**/\nb\n'");
        int[] due = {1, 1, 1, 1, 2, 3, 3};
        book.due("before the first", mill.told(1), 0);
        for (int i = 0; i < due.length; i++) {
            mill.next();
            book.due("behind next " + (i + 1), mill.told(1), due[i]);
        }
        mill.begin();
        book.due("since begin()", mill.told(1), 0);
        mill.next();
        book.due("one since begin()", mill.told(1), 1);
        Checks.feed(mill, "c");
        book.due("feeding takes none", mill.told(1), 1);
    }

    private void toldLinesAtFaults() {
        book.due("8001 tokens and more", tokenFault().told(1), 1);
        book.due("a comment", commentFault().told(1), 0);
        book.due("a quote", quoteFault().told(1), 0);
        for (int tokens = 7999; tokens <= 8002; tokens++) {
            LineMill mill = Checks.mill("a\n;");
            Checks.grow(mill, 2, 3, 2 + tokens);
            mill.next();
            mill.next();
            book.due(tokens + " tokens in the second", mill.told(1), 2);
            mill.next();
            book.due("behind " + tokens + " tokens", mill.told(1), 2);
        }
        LineMill both = Checks.mill("a\n;");
        Checks.grow(both, 2, 3, 8003);
        Checks.feed(both, "/*");
        both.next();
        both.next();
        book.due("8001 tokens and a comment", both.told(1), 1);
    }

    private void toldFault() {
        LineMill mill = Checks.mill("a\nb\\\n/*");
        book.due("before a line is taken", mill.told(2), 0);
        mill.next();
        book.due("behind a line", mill.told(2), 0);
        mill.next();
        book.due("behind the fault", mill.told(2), 3);
        mill.next();
        book.due("behind NONE", mill.told(2), 3);
        Checks.feed(mill, "*/");
        book.due("behind feed()", mill.told(2), 3);
        mill.begin();
        book.due("since begin()", mill.told(2), 0);
        mill.next();
        mill.next();
        book.due("without one since begin()", mill.told(2), 0);
        Checks.feed(mill, "/*");
        mill.next();
        book.due("another, in the line that went on", mill.told(2), 3);
        mill.clear();
        book.due("since clear()", mill.told(2), 0);
        book.due("in line 1", commentFault().told(2), 1);
    }

    private void toldBegin() {
        LineMill mill = Checks.mill("a\n\\\nb\\\n\n/*\n*/c\nd");
        book.due("the first", mill.told(3), 1);
        int[] due = {2, 5, 7, 7, 7};
        for (int i = 0; i < due.length; i++) {
            mill.next();
            book.due("behind next " + (i + 1), mill.told(3), due[i]);
        }
        mill.begin();
        book.due("begun", mill.told(3), 1);
        LineMill splices = Checks.mill("x\n\\\n");
        splices.next();
        book.due("at a splice", splices.told(3), 2);
        splices.next();
        book.due("when nothing was left but the splice", splices.told(3), 3);
        book.due("behind a comment's fault", commentFault().told(3), 0);
        book.due("behind a quote's fault", quoteFault().told(3), 0);
        LineMill fault = tokenFault();
        book.due("behind a line of too many tokens", fault.told(3), 0);
        fault.next();
        book.due("and behind NONE", fault.told(3), 0);
        fault.begin();
        book.due("and begun", fault.told(3), 1);
    }

    private void toldBad() {
        LineMill mill = taken("#\na");
        LineMill[] mills = {new LineMill(), mill, commentFault()};
        for (int of : new int[] {LEAST, LEAST + 3, -3, -2, -1, 4, 5, 256, 257, MOST}) {
            for (int i = 0; i < mills.length; i++) {
                book.due("what = " + of + ", object " + i, mills[i].told(of), LineMill.BAD);
            }
        }
        int[] due = {1, 1, 0, 2};
        for (int of = 0; of < due.length; of++) {
            book.due("what = " + of, mill.told(of), due[of]);
        }
        book.due("nothing was changed", Checks.line(mill), "1 1:2*a");
    }

    private void noLineBeforeNext() {
        noLine("a new object", new LineMill());
        LineMill mill = Checks.mill("# a");
        noLine("a text", mill);
        mill.next();
        book.due("behind next()", mill.token(0, 0), 5);
        mill.begin();
        noLine("before the first next() since begin()", mill);
        mill.next();
        mill.clear();
        noLine("before the first next() since clear()", mill);
    }

    private void noLineBehindNone() {
        LineMill mill = taken("# a\n");
        book.due("at hand", mill.told(0), 1);
        book.due("nothing left", mill.next(), LineMill.NONE);
        noLine("behind NONE", mill);
        Checks.feed(mill, "#");
        noLine("behind NONE and feed()", mill);
        mill.next();
        book.due("at hand again", mill.told(0), 1);
        LineMill empty = taken("#\n\n");
        book.due("an empty line", empty.next(), 0);
        noLine("an empty line has no token", empty);
    }

    private void noLineBehindAFault() {
        LineMill[] mills = {commentFault(), quoteFault(), tokenFault()};
        for (int i = 0; i < mills.length; i++) {
            noLine("fault " + i, mills[i]);
            mills[i].next();
            noLine("NONE behind fault " + i, mills[i]);
        }
        LineMill line = Checks.mill("#\n# /*");
        line.next();
        book.due("before the fault", line.told(0), 1);
        line.next();
        noLine("behind the fault", line);
    }

    private void tokenKind() {
        LineMill mill = taken("a 1 \"b\" 'c' + $ L\"d\" L'e' L .2 . ' \\ \u00ff _");
        int[] kinds = {1, 2, 3, 4, 5, 6, 3, 4, 1, 2, 5, 6, 6, 6, 1};
        for (int i = 0; i < kinds.length; i++) {
            book.due("token " + i, mill.token(i, 0), kinds[i]);
        }
        book.due("behind the last", mill.token(kinds.length, 0), LineMill.BAD);
    }

    private void tokenLine() {
        LineMill mill = taken("a\\\nb c /*\n\n*/ d\\\n\\\n e");
        int[] lines = {1, 2, 4, 6};
        for (int i = 0; i < lines.length; i++) {
            book.due("token " + i, mill.token(i, 1), lines[i]);
        }
        LineMill many = Checks.mill("\\\n");
        Checks.grow(many, 0, 2, 32766);
        Checks.feed(many, "x;");
        many.next();
        book.due("behind 16383 splices", many.token(0, 1), 16384);
    }

    private void tokenBytes() {
        LineMill mill = taken("a bc \"\" L'd' <<= e\\\nf\\\n ' \\");
        int[] bytes = {1, 2, 2, 4, 3, 2, 1, 1};
        for (int i = 0; i < bytes.length; i++) {
            book.due("token " + i, mill.token(i, 2), bytes[i]);
        }
        for (int most = 32767; most <= 32768; most++) {
            LineMill name = Checks.mill("a");
            Checks.grow(name, 0, 1, most);
            name.next();
            book.due("a name of " + most, name.token(0, 2), most);
        }
        LineMill text = Checks.mill("'a");
        Checks.grow(text, 1, 2, 32767);
        Checks.feed(text, "'");
        text.next();
        book.due("a character of 32768", text.token(0, 2), 32768);
    }

    private void tokenBefore() {
        LineMill mill = taken("a+ b/**/c\\\n;\\\n -//");
        int[] before = {1, 0, 1, 1, 0, 1};
        for (int i = 0; i < before.length; i++) {
            book.due("token " + i, mill.token(i, 3), before[i]);
        }
    }

    private void tokenFirst() {
        LineMill mill = taken(" a b+\n;c");
        int[] first = {1, 0, 0, LineMill.BAD};
        for (int i = 0; i < first.length; i++) {
            book.due("token " + i, mill.token(i, 4), first[i]);
        }
        book.due("token -1", mill.token(-1, 4), LineMill.BAD);
        mill.next();
        book.due("token 0 of the next line", mill.token(0, 4), 1);
        book.due("token 1 of the next line", mill.token(1, 4), 0);
    }

    private void tokenBadWhat() {
        LineMill mill = taken("a b");
        for (int of : new int[] {LEAST, LEAST + 4, -4, -1, 5, 6, 256, 260, MOST}) {
            book.due("token 0, what = " + of, mill.token(0, of), LineMill.BAD);
            book.due("token 1, what = " + of, mill.token(1, of), LineMill.BAD);
            book.due("token 2, what = " + of, mill.token(2, of), LineMill.BAD);
        }
        int[] due = {1, 1, 1, 1, 1};
        for (int of = 0; of < due.length; of++) {
            book.due("token 0, what = " + of, mill.token(0, of), due[of]);
        }
    }

    private void tokenBadNumber() {
        LineMill mill = taken("a b\nc");
        int[] none = {LEAST, LEAST + 1, -2, -1, 2, 3, 7999, 8000, 8001, MOST - 1, MOST};
        for (int i : none) {
            for (int of = 0; of <= 4; of++) {
                book.due("token " + i + ", what = " + of, mill.token(i, of), LineMill.BAD);
            }
        }
        book.due("token 0", mill.token(0, 0), 1);
        book.due("token 1", mill.token(1, 0), 1);
        mill.next();
        book.due("token 0 of a shorter line", mill.token(0, 0), 1);
        book.due("token 1 of a shorter line", mill.token(1, 0), LineMill.BAD);
        mill.next();
        book.due("token 0 of no line", mill.token(0, 0), LineMill.BAD);
        mill.begin();
        book.due("token 0 before a line is taken", mill.token(0, 0), LineMill.BAD);
        LineMill most = Checks.mill(";");
        Checks.grow(most, 0, 1, 8000);
        most.next();
        book.due("token 7999 of 8000", most.token(7999, 2), 1);
        book.due("token 8000 of 8000", most.token(8000, 2), LineMill.BAD);
    }

    private void tokenBehindAFault() {
        LineMill[] mills = {commentFault(), quoteFault(), tokenFault()};
        for (int m = 0; m < mills.length; m++) {
            for (int i : new int[] {-1, 0, 1, 7999, 8000}) {
                book.due("fault " + m + ", token " + i, mills[m].token(i, 0), LineMill.BAD);
            }
        }
        LineMill mill = Checks.mill("a\n/*");
        mill.next();
        book.due("before the fault", mill.token(0, 0), 1);
        mill.next();
        book.due("behind the fault", mill.token(0, 0), LineMill.BAD);
        mill.begin();
        mill.next();
        book.due("taken again", mill.token(0, 0), 1);
    }

    private void spelling() {
        String bytes = "abcdefghijklmnopqrstuvwxyz";
        for (int n : new int[] {1, 7, 8, 9, 15, 16, 17, 26}) {
            LineMill mill = taken(bytes.substring(0, n));
            for (int k = 0; k <= n / 8; k++) {
                book.due("of " + n + " bytes, k " + k, mill.spelling(0, k), Checks.word(bytes.substring(0, n), 8 * k));
            }
        }
        LineMill high = taken("\"\u0080\u0000\u00ff\u00fe\u007f\u0001\u0081\u0080\"+");
        book.due("high bytes", high.spelling(0, 0), Checks.word("\"\u0080\u0000\u00ff\u00fe\u007f\u0001\u0081", 0));
        book.due("high bytes, the rest", high.spelling(0, 1), Checks.word("\u0080\"", 0));
        book.due("the token behind", high.spelling(1, 0), '+');
        LineMill spliced = taken("abcdefg\\\nh\\\n\\\nijklmno\\\npq");
        book.due("over splices, k 0", spliced.spelling(0, 0), Checks.word("abcdefgh", 0));
        book.due("over splices, k 1", spliced.spelling(0, 1), Checks.word("ijklmnop", 0));
        book.due("over splices, k 2", spliced.spelling(0, 2), 'q');
    }

    private void spellingBehindTheEnd() {
        book.due("7 of 8 bytes", taken("abcdefg+hi").spelling(0, 0), Checks.word("abcdefg", 0));
        book.due("8 of 8 bytes", taken("abcdefgh+i").spelling(0, 0), Checks.word("abcdefgh", 0));
        book.due("8 of 8 bytes, then none", taken("abcdefgh+i").spelling(0, 1), 0);
        book.due("9 bytes, the ninth", taken("abcdefghi+j").spelling(0, 1), 'i');
        book.due("9 bytes, then none", taken("abcdefghi+j").spelling(0, 2), 0);
        book.due("1 byte before others", taken(";;;;;;;;;").spelling(0, 0), ';');
        book.due("1 byte at the text's end", taken("a;").spelling(1, 0), ';');
        book.due("a byte 0 at the end", taken("$\u0000").spelling(1, 0), 0);
        LineMill longest = Checks.mill("a");
        Checks.grow(longest, 0, 1, 32768);
        longest.next();
        book.due("k 4095 of 32768 bytes", longest.spelling(0, 4095), 0x6161616161616161L);
        book.due("k 4096 of 32768 bytes", longest.spelling(0, 4096), 0);
        LineMill shorter = Checks.mill("a");
        Checks.grow(shorter, 0, 1, 32761);
        Checks.feed(shorter, "+bcdefg");
        shorter.next();
        book.due("k 4095 of 32761 bytes", shorter.spelling(0, 4095), 'a');
    }

    private void spellingOfNone() {
        LineMill mill = taken("abcdefghi +");
        book.due("k 0", mill.spelling(0, 0), Checks.word("abcdefgh", 0));
        book.due("k 1", mill.spelling(0, 1), 'i');
        // From 2^28 on 8 k is no int, and from 2^29 on it wraps round to 0.
        for (int k : new int[] {LEAST, LEAST + 1, -(1 << 29), -2, -1, 2, 3, 4096, 8192, 1 << 28, (1 << 28) + 1,
            1 << 29, (1 << 29) + 1, 1 << 30, MOST - 1, MOST}) {
            book.due("token 0, k " + k, mill.spelling(0, k), 0);
            book.due("token 1, k " + k, mill.spelling(1, k), 0);
        }
        for (int i : new int[] {LEAST, -1, 2, 3, 7999, 8000, 8001, MOST}) {
            book.due("token " + i, mill.spelling(i, 0), 0);
            book.due("token " + i + ", k -1", mill.spelling(i, -1), 0);
        }
        book.due("token 1", mill.spelling(1, 0), '+');
        book.due("a new object", new LineMill().spelling(0, 0), 0);
        book.due("behind a fault", tokenFault().spelling(0, 0), 0);
        mill.next();
        book.due("behind NONE", mill.spelling(0, 0), 0);
    }
}
