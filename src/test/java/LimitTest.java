/** The limits of the document: bytes of the text, tokens of a line, open quotes, lines. */
public final class LimitTest {
    private static final Checks checks = new Checks();

    public static void main(String[] args) {
        fullText();
        longTokens();
        tokensOfALine();
        tokensOverLines();
        quotesSinceBegin();
        quotesInALine();
        quoteAndComment();
        beforeTheTokens();
        lines();
        checks.finish("LimitTest");
    }

    private static void fullText() {
        LineMill mill = Checks.mill("abcdefgh");
        Checks.grow(mill, 0, 8, 32761);
        checks.due("feed over", mill.feed(0, 8), LineMill.FULL);
        checks.due("again over", mill.again(0, 8), LineMill.FULL);
        checks.due("again far over", mill.again(0, 32761), LineMill.FULL);
        checks.due("BAD before FULL", mill.again(1, 32761), LineMill.BAD);
        checks.due("nothing came", mill.feed('x', 1), 32762);
        checks.due("up to the end", mill.again(0, 6), 32768);
        checks.due("one more", mill.feed('x', 1), LineMill.FULL);
        checks.due("one more again", mill.again(0, 1), LineMill.FULL);
        checks.due("BAD before FULL, fed", mill.feed('x', 9), LineMill.BAD);
        checks.due("one token", mill.next(), 1);
        checks.due("of all bytes", mill.token(0, 2), 32768);
        checks.due("its last ones", mill.spelling(0, 4095), Checks.word("axabcdef", 0));
        checks.due("behind it", mill.spelling(0, 4096), 0);
        checks.due("had", mill.clear(), 32768);
        checks.due("room again", mill.feed('x', 1), 1);
    }

    private static void longTokens() {
        LineMill mill = Checks.mill("\\\n");
        Checks.grow(mill, 0, 2, 32760);
        Checks.feed(mill, "ab\\\ncd\nx");
        checks.due("behind many splices", Checks.line(mill), "1 1:16381*abcd");
        checks.due("next line", mill.told(3), 16383);

        LineMill lines = Checks.mill("\n");
        Checks.grow(lines, 0, 1, 32766);
        checks.due("empty line", lines.next(), 0);
        lines.clear();
        Checks.feed(lines, "/*\n\n");
        Checks.grow(lines, 2, 4, 32765);
        Checks.feed(lines, "*/x");
        checks.due("behind many LFs", Checks.line(lines), "1 1:32764*x");
    }

    private static void tokensOfALine() {
        LineMill mill = Checks.mill("+ ");
        Checks.grow(mill, 0, 2, 16000);
        Checks.feed(mill, "\n\\\n");
        checks.due("8000 tokens", mill.next(), 8000);
        checks.due("the last", mill.token(7999, 0), 5);
        checks.due("behind the last", mill.token(8000, 0), LineMill.BAD);
        mill.again(0, 16000);
        Checks.feed(mill, "\\\n; /**/\n");
        checks.due("8001 tokens", mill.next(), -31);
        checks.due("line of the 8001st", mill.told(2), 4);
        checks.due("counts as taken", mill.told(1), 2);
        checks.due("no next line", mill.told(3), 0);
        checks.due("no directive", mill.told(0), 0);
        checks.due("no token", mill.token(0, 0), LineMill.BAD);
        checks.due("no spelling", mill.spelling(0, 0), 0);
        checks.due("behind a fault", mill.next(), LineMill.NONE);
    }

    private static void tokensOverLines() {
        LineMill mill = Checks.mill(";/**//*\n*/");
        Checks.grow(mill, 0, 10, 32760);
        checks.due("fewer than 8000 over lines", mill.next(), 3276);
        checks.due("line of the last", mill.token(3275, 1), 3276);
        LineMill fault = Checks.mill(";\\\n");
        Checks.grow(fault, 0, 3, 32766);
        checks.due("10922 tokens", fault.next(), -31);
        checks.due("line of the 8001st", fault.told(2), 8001);
    }

    private static void quotesSinceBegin() {
        LineMill mill = Checks.mill("\\'\\\"");
        Checks.grow(mill, 0, 4, 2000);
        Checks.feed(mill, "\n#L'\n");
        checks.due("1000 open quotes", mill.next(), 2000);
        checks.due("the last is a token", mill.token(1999, 0), 6);
        checks.due("the 1001st in the next line", mill.next(), -31);
        checks.due("its line", mill.told(2), 2);
        checks.due("not counted as taken", mill.told(1), 1);
        checks.due("behind it", mill.next(), LineMill.NONE);
        mill.begin();
        checks.due("1000 open quotes since begin", mill.next(), 2000);
        checks.due("no fault since begin", mill.told(2), 0);
    }

    private static void quotesInALine() {
        LineMill mill = Checks.mill("\\'");
        Checks.grow(mill, 0, 2, 2000);
        Checks.feed(mill, "\\\n 'closed' \\' \\\nL\"x");
        checks.due("one closed over all of them", mill.next(), 9);
        checks.due("its bytes", mill.token(1, 2), 2001);
        LineMill fault = Checks.mill("\\'");
        Checks.grow(fault, 0, 2, 2000);
        Checks.feed(fault, "\\\nL\\\n\" ; \n");
        checks.due("the 1001st in the line", fault.next(), -31);
        checks.due("the quote's line, not L's", fault.told(2), 3);
        checks.due("none taken", fault.told(1), 0);
        checks.due("no token", fault.token(0, 0), LineMill.BAD);
    }

    private static void quoteAndComment() {
        LineMill quote = Checks.mill("\\'");
        Checks.grow(quote, 0, 2, 2000);
        Checks.feed(quote, "\n\" \\\n /* ");
        quote.next();
        checks.due("the quote comes first", quote.next(), -31);
        checks.due("its line", quote.told(2), 2);
        LineMill comment = Checks.mill("\\'");
        Checks.grow(comment, 0, 2, 2000);
        Checks.feed(comment, "\n /* \" \n \"");
        comment.next();
        checks.due("the comment comes first", comment.next(), -11);
        checks.due("its line", comment.told(2), 2);
    }

    private static void beforeTheTokens() {
        LineMill comment = Checks.mill(";;");
        Checks.grow(comment, 0, 2, 9000);
        Checks.feed(comment, "\\\n/*\n");
        checks.due("a comment behind 9000 tokens", comment.next(), -11);
        checks.due("its line", comment.told(2), 2);
        checks.due("not counted as taken", comment.told(1), 0);
        LineMill quote = Checks.mill("\\'");
        Checks.grow(quote, 0, 2, 2000);
        Checks.feed(quote, "\n;;");
        Checks.grow(quote, 2001, 2003, 12000);
        Checks.feed(quote, "\\\n'");
        checks.due("1000 open quotes", quote.next(), 2000);
        checks.due("a quote behind 8001 tokens", quote.next(), -31);
        checks.due("the quote's line", quote.told(2), 3);
        checks.due("one line taken", quote.told(1), 1);
    }

    /** The document leaves calls beyond the 512th free; this only guards that limit of the class itself. */
    private static void lines() {
        LineMill mill = new LineMill();
        int wrong = 0;
        for (int i = 0; i < 20000; i++) {
            mill.feed('x', 1);
            wrong += mill.next() == 1 ? 0 : 1;
        }
        checks.due("20000 lines with tokens", wrong, 0);
        checks.due("counted", mill.told(1), 20000);
        Checks.feed(mill, "\n\n");
        checks.due("one without tokens", mill.next(), 0);
        checks.due("another", mill.next(), 0);
        Checks.feed(mill, "\\\n;\\\n;");
        Checks.grow(mill, 20002, 20008, 32768);
        mill.next();
        checks.due("the 20001st: its first token's line", mill.told(2), 4);
        checks.due("not counted", mill.told(1), 20000);
    }
}
