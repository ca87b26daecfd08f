/** Terms: lines taken one by one, and the faults that stop it. */
final class FaultBoundaries {
    private static final int COMMENT = -11, ROOM = -31;

    private final Book book;

    FaultBoundaries(Book book) {
        this.book = book;
    }

    void run() {
        book.test("Terms", "Lines are taken one by one.", this::oneByOne);
        book.test("Terms", "FAULTS: 1 COMMENT: the text ends in one", this::textEndsInAComment);
        book.test("Terms", "told when the line is taken in which it begins, with the line of its beginning",
            this::lineOfTheComment);
        book.test("Terms", "21 ROOM: the 1001st quote without an end since begin(), with its line", this::openQuotes);
        book.test("Terms", "(it and the former: what comes first", this::whatComesFirst);
        book.test("Terms", "a comment or quote before the two that follow, wherever they stand)",
            this::beforeTheOthers);
        book.test("Terms", "more than 8000 tokens in the line, with that of the 8001st", this::tokensOfALine);
        book.test("Terms", "or it would be the 20001st line with tokens that is taken since begin(), with that of its first token",
            this::linesWithTokens);
        book.test("Terms", "(looked at before the former)", this::linesBeforeTokens);
        book.test("Terms", "Behind a fault no line is taken until begin().", this::behindAFault);
    }

    /** A text of n times some bytes, and an end. */
    private static LineMill mill(String bytes, int n, String end) {
        LineMill mill = new LineMill();
        extend(mill, bytes, n, end);
        return mill;
    }

    private static void extend(LineMill mill, String bytes, int n, String end) {
        int has = Checks.feed(mill, bytes);
        int from = has - bytes.length();
        Checks.grow(mill, from, has, from + n * bytes.length());
        Checks.feed(mill, end);
    }

    private void fault(String what, LineMill mill, int answer, int line, int lines) {
        book.due(what, mill.next(), answer);
        book.due(what + ": its line", mill.told(2), line);
        book.due(what + ": lines taken", mill.told(1), lines);
    }

    private void oneByOne() {
        LineMill mill = Checks.mill("a\n\nb c\nd");
        book.due("none is taken by feeding", mill.told(1), 0);
        book.due("the first", Checks.line(mill), "1 1:1*a");
        book.due("one is taken", mill.told(1), 1);
        book.due("the second", Checks.line(mill), "0");
        book.due("it has no tokens", mill.told(1), 1);
        book.due("the third", Checks.line(mill), "2 1:3*b 1:3*c");
        book.due("two are taken", mill.told(1), 2);
        book.due("the last", Checks.line(mill), "1 1:4*d");
        book.due("none is left", mill.next(), LineMill.NONE);
        book.due("three are taken", mill.told(1), 3);
    }

    private void textEndsInAComment() {
        for (String text : new String[] {"/*", "/*/", "/* *", "/**", "/*\n", "/* * /", "a/*", "'a'/*'*'", "/\\\n*", "/**//*", "'/*"}) {
            book.due("next of <" + text + ">", Checks.mill(text).next(), COMMENT);
        }
        for (String text : new String[] {"/**/", "/***/", "/*\n*/", "/**\\\n/", "//", "// /*", "//\\\n/*", "/**/ "}) {
            book.due("next of <" + text + ">", Checks.mill(text).next(), 0);
        }
        book.due("a slash alone", Checks.mill("/").next(), 1);
        book.due("a slash, a blank and a star", Checks.mill("/ *").next(), 2);
        book.due("within quotes", Checks.mill("'/*'").next(), 1);
        LineMill mill = Checks.mill("/* *");
        book.due("before its end is fed", mill.next(), COMMENT);
        Checks.feed(mill, "/");
        mill.begin();
        book.due("when its end is fed", mill.next(), 0);
    }

    private void lineOfTheComment() {
        LineMill first = Checks.mill("a /*\n\n");
        fault("in the first line", first, COMMENT, 1, 0);
        LineMill second = Checks.mill("a\nb /*\n");
        book.due("the line before it", Checks.line(second), "1 1:1*a");
        book.due("no fault so far", second.told(2), 0);
        fault("in the second line", second, COMMENT, 2, 1);
        LineMill third = Checks.mill("a\n\n/* ");
        book.due("two lines before it: one", Checks.line(third), "1 1:1*a");
        book.due("two lines before it: the other", Checks.line(third), "0");
        fault("in the third line", third, COMMENT, 3, 1);
        fault("behind a splice", Checks.mill("a \\\n/*"), COMMENT, 2, 0);
        fault("over a splice", Checks.mill("a /\\\n*\\\n"), COMMENT, 1, 0);
        fault("behind a comment over lines", Checks.mill("/*\n\n*/ a /*\n"), COMMENT, 3, 0);
    }

    private void openQuotes() {
        fault("the 999th", mill("\\'", 999, ""), 1998, 0, 1);
        fault("the 1000th", mill("\\'", 1000, ""), 2000, 0, 1);
        fault("the 1001st", mill("\\'", 1001, ""), ROOM, 1, 0);
        fault("the 1002nd", mill("\\'", 1002, ""), ROOM, 1, 0);
        fault("the 1000th with L", mill("\\'", 999, "\\\nL\""), 2000, 0, 1);
        fault("the 1001st of the other kind", mill("\\'", 1000, "\\\nL\\\n\""), ROOM, 3, 0);
        fault("an end for the 1001st", mill("\\'", 1000, "L\"\""), 2001, 0, 1);
        fault("quotes with an end", mill("''", 1001, "'"), 1002, 0, 1);
        fault("quotes within a comment", mill("\\'", 1000, "/*\\'*/ //\\'"), 2000, 0, 1);

        LineMill lines = mill("\\\"", 500, "\n");
        lines.again(0, 1001);
        Checks.feed(lines, "a\n'");
        book.due("500 of them", lines.next(), 1000);
        book.due("500 more", lines.next(), 1000);
        book.due("a line without one", lines.next(), 1);
        fault("the 1001st in the fourth line", lines, ROOM, 4, 3);
        lines.begin();
        book.due("500 since begin()", lines.next(), 1000);
        book.due("1000 since begin()", lines.next(), 1000);
        book.due("no fault since begin()", lines.told(2), 0);
        lines.clear();
        extend(lines, "\\'", 1000, "");
        book.due("1000 since clear()", lines.next(), 2000);
        Checks.feed(lines, "'");
        fault("the 1001st, fed later", lines, ROOM, 1, 1);
    }

    private void whatComesFirst() {
        fault("999 quotes, a comment", mill("\\'", 999, "\\\n/*\n'"), COMMENT, 2, 0);
        fault("1000 quotes, a comment", mill("\\'", 1000, "\\\n/*\n'"), COMMENT, 2, 0);
        fault("1001 quotes, a comment", mill("\\'", 1001, "\\\n/*\n"), ROOM, 1, 0);
        fault("1001 quotes, a comment directly behind", mill("\\'", 1001, "/*"), ROOM, 1, 0);
        fault("1000 quotes, a comment before the next", mill("\\'", 1000, "/*\\'"), COMMENT, 1, 0);
        fault("1000 quotes, a comment with an end, the next", mill("\\'", 1000, "/*\n*/'/*"), ROOM, 2, 0);
        LineMill lines = mill("\\'", 1000, "\n'\n/*");
        book.due("1000 quotes in a line of their own", lines.next(), 2000);
        fault("the comment begins in a later line", lines, ROOM, 2, 1);
    }

    private void beforeTheOthers() {
        fault("8000 tokens, a comment", mill(";", 8000, "\\\n/*"), COMMENT, 2, 0);
        fault("8001 tokens, a comment", mill(";", 8001, "\\\n/*"), COMMENT, 2, 0);
        fault("20000 tokens, a comment", mill(";", 20000, "\\\n\\\n/*"), COMMENT, 3, 0);
        fault("8001 tokens, a comment with an end", mill(";", 8001, "\\\n/**/"), ROOM, 1, 1);
        fault("8001 tokens, a comment in the next line", mill(";", 8001, "\n/*"), ROOM, 1, 1);
        for (int tokens = 7999; tokens <= 8001; tokens++) {
            LineMill quote = mill("\\'", 1000, "\n");
            extend(quote, ";", tokens, "\\\n'");
            book.due("1000 quotes", quote.next(), 2000);
            fault(tokens + " tokens, the 1001st quote", quote, ROOM, 3, 1);
        }
        fault("1001 quotes, then 8001 tokens", mill("\\'", 8001, ""), ROOM, 1, 0);
        LineMill last = mill("\\'", 999, "\n");
        extend(last, ";", 8001, "\\\n'");
        book.due("999 quotes", last.next(), 1998);
        fault("8002 tokens, the 1000th quote", last, ROOM, 2, 2);
    }

    private void tokensOfALine() {
        fault("7999 tokens", mill(";", 7999, "\n"), 7999, 0, 1);
        fault("8000 tokens", mill(";", 8000, " \\\n/**/\n"), 8000, 0, 1);
        fault("8001 tokens", mill(";", 8000, "\\\n;"), ROOM, 2, 1);
        fault("8002 tokens", mill(";", 8000, "\\\n;\\\n;"), ROOM, 2, 1);
        fault("the 8001st in the line of the 8000th", mill(";", 8001, "\\\n;"), ROOM, 1, 1);
        fault("32768 tokens", mill(";", 32768, ""), ROOM, 1, 1);
        fault("each token in a line of its own", mill(";\\\n", 8001, ""), ROOM, 8001, 1);
        LineMill lines = mill(";", 8000, "\n");
        lines.again(0, 8001);
        Checks.feed(lines, ";;");
        book.due("8000 in one line", lines.next(), 8000);
        book.due("8000 in the next", lines.next(), 8000);
        book.due("the last of them", lines.token(7999, 0), 5);
        book.due("none behind it", lines.token(8000, 0), LineMill.BAD);
        book.due("two in the third", lines.next(), 2);
    }

    /** That many lines take more than 512 calls, which the document leaves free: these two guard the class itself. */
    private LineMill afterLines(int lines) {
        LineMill mill = new LineMill();
        int wrong = 0;
        for (int i = 0; i < lines; i++) {
            mill.feed('x', 1);
            wrong += mill.next() == 1 ? 0 : 1;
        }
        book.due(lines + " lines are taken", wrong, 0);
        Checks.feed(mill, "\n");
        book.due("the last one's end", mill.next(), 0);
        return mill;
    }

    private void linesWithTokens() {
        LineMill mill = afterLines(19999);
        Checks.feed(mill, "a\n");
        fault("the 20000th", mill, 1, 0, 20000);
        Checks.feed(mill, " \n");
        fault("one without tokens", mill, 0, 0, 20000);
        Checks.feed(mill, "\\\na \\\nb");
        fault("the 20001st", mill, ROOM, 5, 20000);
        mill.begin();
        fault("the first since begin()", mill, 1, 0, 1);
    }

    private void linesBeforeTokens() {
        LineMill before = afterLines(19999);
        extend(before, ";", 8000, "\\\n;");
        fault("the 20000th with 8001 tokens", before, ROOM, 3, 20000);
        LineMill at = afterLines(20000);
        extend(at, ";", 8000, "\\\n;");
        fault("the 20001st with 8001 tokens", at, ROOM, 2, 20000);
        LineMill fewer = afterLines(20000);
        extend(fewer, ";", 8000, "\\\n");
        fault("the 20001st with 8000 tokens", fewer, ROOM, 2, 20000);
        LineMill comment = afterLines(20000);
        extend(comment, ";", 8001, "\\\n/*");
        fault("a comment in the 20001st", comment, COMMENT, 3, 20000);
    }

    private void behindAFault() {
        LineMill[] mills = {Checks.mill("a\nb /*"), mill("\\'", 1001, "\na"), mill(";", 8001, "\na")};
        int[] faults = {COMMENT, ROOM, ROOM};
        mills[0].next();
        for (int i = 0; i < mills.length; i++) {
            LineMill mill = mills[i];
            String what = "fault " + i;
            book.due(what, mill.next(), faults[i]);
            int lines = mill.told(1);
            book.due(what + ": the next", mill.next(), LineMill.NONE);
            Checks.feed(mill, "*/\n\nc\n");
            book.due(what + ": what is fed behind it", mill.next(), LineMill.NONE);
            mill.again(0, 1);
            book.due(what + ": what comes again behind it", mill.next(), LineMill.NONE);
            book.due(what + ": lines taken", mill.told(1), lines);
        }
        mills[0].begin();
        book.due("begun: the first line", Checks.line(mills[0]), "1 1:1*a");
        book.due("begun: the one that had the fault", Checks.line(mills[0]), "1 1:2*b");
        book.due("begun: the next", Checks.line(mills[0]), "0");
        mills[1].begin();
        book.due("begun: the fault once more", mills[1].next(), ROOM);
        mills[2].clear();
        Checks.feed(mills[2], "c");
        book.due("cleared, so begun", Checks.line(mills[2]), "1 1:1*c");
    }
}
