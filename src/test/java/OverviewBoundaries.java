/** What it is: the document's first words, each held against what its terms say of it. */
final class OverviewBoundaries {
    private static final int MOST_CALLS = 512;

    private final Book book;

    OverviewBoundaries(Book book) {
        this.book = book;
    }

    void run() {
        book.test("What it is", "Cuts a text into logical lines and these into tokens, "
            + "as it is done before a compiler of the language C sees it", this::linesAndTokens);
        book.test("What it is", "lines that are spliced", this::splicedLines);
        book.test("What it is", "comments over lines", this::commentsOverLines);
        book.test("What it is", "quotes that hold both off", this::quotesHoldOff);
        book.test("What it is", "the longest tokens", this::longestTokens);
        book.test("What it is", "each token with its line, its kind and what stands before it.", this::tokensTold);
        book.test("What it is", "An object is used for at most 512 calls after it has been made; "
            + "what later calls answer is free.", this::mostCalls);
    }

    private void linesAndTokens() {
        LineMill mill = Checks.mill("#define N 10u\n\nint a[N]; // N of them\n  return a[0] ? '\\0' : L\"x\";");
        book.due("a directive", Checks.line(mill), "4 5:1*# 1:1.define 1:1*N 2:1*10u");
        book.due("it is one", mill.told(0), 1);
        book.due("an empty line", Checks.line(mill), "0");
        book.due("a declaration", Checks.line(mill), "6 1:3*int 1:3*a 5:3.[ 1:3.N 5:3.] 5:3.;");
        book.due("the last line, without an LF", Checks.line(mill),
            "10 1:4*return 1:4*a 5:4.[ 2:4.0 5:4.] 5:4*? 4:4*'\\0' 5:4*: 3:4*L\"x\" 5:4.;");
        book.due("the end", Checks.line(mill), "-2");
    }

    private void splicedLines() {
        LineMill mill = Checks.mill("a b\\\n\\\nc \\\nd\ne\\ \nf");
        book.due("four of the text are one", Checks.line(mill), "3 1:1*a 1:1*bc 1:4*d");
        book.due("a blank between holds it off", Checks.line(mill), "2 1:5*e 6:5.\\");
        book.due("which the next one shows", Checks.line(mill), "1 1:6*f");
    }

    private void commentsOverLines() {
        LineMill mill = Checks.mill("a/*\n*/b//\nc/* *\n/\n*/\nd");
        book.due("over one LF", Checks.line(mill), "2 1:1*a 1:2*b");
        book.due("over two, its end not torn by one", Checks.line(mill), "1 1:3*c");
        book.due("and the line behind it", Checks.line(mill), "1 1:6*d");
        book.due("without an end", Checks.mill("a/*\n*\n/").next(), -11);
    }

    /**
     * Comments over lines and comments up to a line's end. The terms let a splice go before
     * any quote is looked for, so it joins a quoted token as it joins every other.
     */
    private void quotesHoldOff() {
        book.line("\"/*\"*/", "3 3:1*\"/*\" 5:1.* 5:1./");
        book.line("'//' a", "2 4:1*'//' 1:1*a");
        book.line("\"/*\n*/\"", "2 6:1*\" 6:2*\"");
        book.line("/*\"*/a", "1 1:1*a");
        book.line("//'\n'", "0");
        book.line("\"/\\\n*\" '/\\\n/'", "2 3:1*\"/*\" 4:2*'//'");
    }

    private void longestTokens() {
        book.cut("a1_ <<=<<<=< 1.5e+3-2 ....", "a1_|<<=|<<|<=|<|1.5e+3|-|2|...|.");
        book.cut("a1 _", "a1|_");
        book.cut("< <= +++", "<|<=|++|+");
    }

    private void tokensTold() {
        LineMill mill = Checks.mill("x+\\\n1/**/\"t\" '\\''@");
        book.due("tokens", mill.next(), 6);
        int[] kinds = {1, 5, 2, 3, 4, 6};
        int[] lines = {1, 1, 2, 2, 2, 2};
        int[] befores = {1, 0, 0, 1, 1, 0};
        for (int i = 0; i < 6; i++) {
            book.due("kind of " + i, mill.token(i, 0), kinds[i]);
            book.due("line of " + i, mill.token(i, 1), lines[i]);
            book.due("what stands before " + i, mill.token(i, 3), befores[i]);
        }
    }

    /** A call of each kind in turn, so the last ones are as good as the first. */
    private void mostCalls() {
        LineMill mill = new LineMill();
        int round = 0;
        for (int call = 0; call + 8 <= MOST_CALLS; call += 8) {
            round++;
            book.due("feed in round " + round, mill.feed(0x0A2361L, 3), 3);
            book.due("again in round " + round, mill.again(1, 2), 5);
            mill.begin();
            book.due("next in round " + round, mill.next(), 2);
            book.due("told in round " + round, mill.told(3), 2);
            book.due("token in round " + round, mill.token(1, 0), 5);
            book.due("spelling in round " + round, mill.spelling(1, 0), '#');
            book.due("clear in round " + round, mill.clear(), 5);
        }
        book.due("calls", round * 8, MOST_CALLS);
    }
}
