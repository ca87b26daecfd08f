/** Promises 1 to 5: what makes, fills, empties and begins a text. */
final class FeedBoundaries {
    private static final int LEAST = Integer.MIN_VALUE, MOST = Integer.MAX_VALUE;

    private final Book book;

    FeedBoundaries(Book book) {
        this.book = book;
    }

    void run() {
        book.test("Promise 1", "An empty text, which is begun.", this::newObject);
        book.test("Promise 2", "The n lowest of eight bytes come behind the text, the lowest one first: how many it has.",
            this::feed);
        book.test("Promise 2", "BAD: n is not 1 .. 8", this::feedBad);
        book.test("Promise 2", "FULL.", this::feedFull);
        book.test("Promise 2", "(What was taken so far stays taken", this::takenStaysTaken);
        book.test("Promise 2", "a line that ended with the text goes on with what comes.)", this::lineGoesOn);
        book.test("Promise 3", "Of the text the bytes from one on, n of them, come once more behind it: how many it has.",
            this::again);
        book.test("Promise 3", "BAD: they are not all there", this::againNotAllThere);
        book.test("Promise 3", "or n is below 1", this::againBelowOne);
        book.test("Promise 3", "FULL.", this::againFull);
        book.test("Promise 4", "The text is empty", this::clearEmpties);
        book.test("Promise 4", "and begun", this::clearBegins);
        book.test("Promise 4", "how many bytes it had.", this::clearAnswers);
        book.test("Promise 5", "Lines are taken from the text's beginning again.", this::begin);
    }

    private static LineMill full(int bytes) {
        LineMill mill = Checks.mill("abcdefgh");
        Checks.grow(mill, 0, 8, bytes);
        return mill;
    }

    /** What a text tells before its first line is taken. */
    private void begun(String what, LineMill mill) {
        book.due(what + ": told(0)", mill.told(0), 0);
        book.due(what + ": told(1)", mill.told(1), 0);
        book.due(what + ": told(2)", mill.told(2), 0);
        book.due(what + ": told(3)", mill.told(3), 1);
        book.due(what + ": token(0, 0)", mill.token(0, 0), LineMill.BAD);
        book.due(what + ": spelling(0, 0)", mill.spelling(0, 0), 0);
    }

    private void newObject() {
        LineMill mill = new LineMill();
        begun("new", mill);
        book.due("no byte is there", mill.again(0, 1), LineMill.BAD);
        book.due("nothing is left", mill.next(), LineMill.NONE);
        begun("behind NONE", mill);
        book.due("it had no byte", mill.clear(), 0);
        book.due("the first byte", mill.feed('x', 1), 1);
        book.due("no begin() is needed", Checks.line(mill), "1 1:1*x");
        LineMill other = Checks.mill("y");
        other.next();
        begun("new beside another", new LineMill());
    }

    private void feed() {
        long eight = Checks.word("abcdefgh", 0);
        for (int n = 1; n <= 8; n++) {
            LineMill mill = new LineMill();
            book.due("how many it has of " + n, mill.feed(eight, n), n);
            book.due("behind them of " + n, mill.feed('z', 1), n + 1);
            book.due("the lowest of " + n, Checks.line(mill), "1 1:1*" + "abcdefgh".substring(0, n) + "z");
        }
        LineMill high = new LineMill();
        book.due("all bits set", high.feed(-1L, 7), 7);
        book.due("the sign bit alone", high.feed(Long.MIN_VALUE, 8), 15);
        book.due("byte 255 seven times, 0 seven times, 128", high.next(), 15);
        book.due("the seventh", high.spelling(6, 0), 255);
        book.due("the eighth", high.spelling(7, 0), 0);
        book.due("the eighth has a byte", high.token(7, 2), 1);
        book.due("the last", high.spelling(14, 0), 128);
    }

    private void feedBad() {
        LineMill mill = Checks.mill("q");
        for (int n : new int[] {LEAST, LEAST + 1, -8, -1, 0, 9, 10, 16, 256, 257, MOST - 1, MOST}) {
            book.due("n " + n, mill.feed('x', n), LineMill.BAD);
        }
        book.due("n 1, and nothing came before", mill.feed('x', 1), 2);
        book.due("n 8", mill.feed(Checks.word("abcdefgh", 0), 8), 10);
        book.due("what came", Checks.line(mill), "1 1:1*qxabcdefgh");
        LineMill full = full(32768);
        book.due("n 0 on a full text", full.feed('x', 0), LineMill.BAD);
        book.due("n 1 on a full text", full.feed('x', 1), LineMill.FULL);
        book.due("n 8 on a full text", full.feed('x', 8), LineMill.FULL);
        book.due("n 9 on a full text", full.feed('x', 9), LineMill.BAD);
    }

    private void feedFull() {
        for (int n = 1; n <= 8; n++) {
            LineMill mill = full(32768 - n);
            if (n < 8) {
                book.due(n + " and one more", mill.feed(0, n + 1), LineMill.FULL);
            }
            book.due("up to the end by " + n, mill.feed(Checks.word("stuvwxyz", 0), n), 32768);
            book.due("one behind the end", mill.feed('x', 1), LineMill.FULL);
            book.due("a full text's line", mill.next(), 1);
            book.due("its last byte", mill.spelling(0, 4095) >>> 56, 'r' + n);
        }
        LineMill mill = full(32767);
        book.due("two at the end", mill.feed(Checks.word("xy", 0), 2), LineMill.FULL);
        book.due("nothing of them came", mill.feed('z', 1), 32768);
        book.due("had", mill.clear(), 32768);
        book.due("room again", mill.feed('x', 8), 8);
    }

    private void takenStaysTaken() {
        LineMill mill = Checks.mill("# a\nb");
        book.due("one line", mill.next(), 2);
        Checks.feed(mill, "c\n");
        book.due("the line at hand stays: told(0)", mill.told(0), 1);
        book.due("the line at hand stays: told(1)", mill.told(1), 1);
        book.due("the line at hand stays: told(3)", mill.told(3), 2);
        book.due("the line at hand stays: token", mill.token(1, 0), 1);
        book.due("the line at hand stays: spelling", mill.spelling(1, 0), 'a');
        mill.feed('x', 9);
        mill.again(0, 100);
        book.due("and behind refused calls", mill.spelling(1, 0), 'a');
        mill.again(0, 2);
        book.due("and behind again()", mill.spelling(1, 0), 'a');
        book.due("what was not taken grew", Checks.line(mill), "1 1:2*bc");
        LineMill name = Checks.mill("ab");
        book.due("a name at the end", Checks.line(name), "1 1:1*ab");
        Checks.feed(name, "cd");
        book.due("its bytes stay", name.token(0, 2), 2);
        book.due("its spelling stays", name.spelling(0, 0), Checks.word("ab", 0));
        LineMill slash = Checks.mill("a\\");
        book.due("a 92 at the end", Checks.line(slash), "2 1:1*a 6:1.\\");
        Checks.feed(slash, "\nb");
        book.due("stays a token", slash.spelling(1, 0), 92);
        book.due("of one byte", slash.token(1, 2), 1);
        book.due("and the name before it", slash.spelling(0, 0), 'a');
    }

    private void lineGoesOn() {
        LineMill mill = Checks.mill("a ");
        book.due("ended with the text", Checks.line(mill), "1 1:1*a");
        book.due("where it goes on", mill.told(3), 1);
        book.due("nothing comes", mill.next(), LineMill.NONE);
        Checks.feed(mill, "b\nc\n");
        book.due("goes on", Checks.line(mill), "1 1:1*b");
        book.due("behind its LF", mill.told(3), 2);
        book.due("the next", Checks.line(mill), "1 1:2*c");
        book.due("where the next begins", mill.told(3), 3);
        Checks.feed(mill, "d");
        book.due("behind an LF a new one begins", Checks.line(mill), "1 1:3*d");
        LineMill end = Checks.mill("a");
        end.next();
        Checks.feed(end, "\n");
        book.due("its LF alone comes", Checks.line(end), "0");
        book.due("and ends it", end.told(3), 2);
        for (String text : new String[] {"a", "1", "+", "'", "a //", "a /**/", "a\\\n"}) {
            LineMill any = Checks.mill(text);
            any.next();
            Checks.feed(any, ";");
            book.due("the very next byte behind <" + text + ">", any.next(), 1);
            book.due("is all that came behind <" + text + ">", any.spelling(0, 0), ';');
        }
        LineMill slash = Checks.mill("x\\");
        book.due("a 92 is taken", Checks.line(slash), "2 1:1*x 6:1.\\");
        Checks.feed(slash, "\n");
        book.due("its LF comes later", Checks.line(slash), "0");
        Checks.feed(slash, "y");
        book.due("and the next line", Checks.line(slash), "1 1:2*y");
        slash.begin();
        book.due("all is there when begun", Checks.line(slash), "1 1:1*xy");
    }

    private void again() {
        int[] from = {0, 0, 1, 3, 0};
        int[] n = {1, 3, 2, 1, 4};
        String[] came = {"a", "abc", "bc", "d", "abcd"};
        for (int i = 0; i < from.length; i++) {
            LineMill mill = Checks.mill("abcd");
            String what = "from " + from[i] + ", " + n[i] + " of them";
            book.due(what + ": how many it has", mill.again(from[i], n[i]), 4 + n[i]);
            book.due(what + ": what came", Checks.line(mill), "1 1:1*abcd" + came[i]);
        }
        LineMill mill = Checks.mill("'\\\n\n\u0000\u00ff'");
        book.due("bytes as they stand", mill.again(1, 2), 9);
        book.due("with what came", mill.again(7, 2), 11);
        book.due("all of it", mill.again(0, 11), 22);
        book.due("the first line", Checks.line(mill), "1 6:1*'");
        book.due("the second line", Checks.line(mill), "3 6:3*\u0000 6:3.\u00ff 4:3.''");
        book.due("the third line", Checks.line(mill), "3 6:7*\u0000 6:7.\u00ff 6:7.'");
        LineMill half = full(16384);
        book.due("16384 of them", half.again(0, 16384), 32768);
    }

    private void againNotAllThere() {
        LineMill mill = new LineMill();
        book.due("one of none", mill.again(0, 1), LineMill.BAD);
        Checks.feed(mill, "abcd");
        book.due("from -1", mill.again(-1, 1), LineMill.BAD);
        book.due("from -1, all", mill.again(-1, 4), LineMill.BAD);
        book.due("from -1, one more than all", mill.again(-1, 5), LineMill.BAD);
        book.due("from 0, one too many", mill.again(0, 5), LineMill.BAD);
        book.due("from 1, one too many", mill.again(1, 4), LineMill.BAD);
        book.due("the last and one more", mill.again(3, 2), LineMill.BAD);
        book.due("from the end", mill.again(4, 1), LineMill.BAD);
        book.due("from behind the end", mill.again(5, 1), LineMill.BAD);
        for (int far : new int[] {LEAST, LEAST + 1, MOST - 1, MOST}) {
            book.due("from " + far, mill.again(far, 1), LineMill.BAD);
            book.due("from " + far + ", the most", mill.again(far, MOST), LineMill.BAD);
            book.due("from " + far + ", four", mill.again(far, 4), LineMill.BAD);
        }
        for (int from = 0; from <= 4; from++) {
            book.due("the most from " + from, mill.again(from, MOST), LineMill.BAD);
            book.due("a sum that wraps from " + from, mill.again(from, MOST - from + 1), LineMill.BAD);
        }
        book.due("the last, and nothing came before", mill.again(3, 1), 5);
        book.due("all", mill.again(0, 5), 10);
        book.due("the last of those", mill.again(9, 1), 11);
        mill.clear();
        book.due("of a text that was cleared", mill.again(0, 1), LineMill.BAD);
        LineMill full = full(32768);
        book.due("of a full text, not all there", full.again(1, 32768), LineMill.BAD);
        book.due("of a full text, all there", full.again(0, 32768), LineMill.FULL);
        book.due("of a full text, one too many", full.again(0, 32769), LineMill.BAD);
    }

    private void againBelowOne() {
        LineMill mill = Checks.mill("abcd");
        for (int n : new int[] {LEAST, LEAST + 1, -MOST, -4, -1, 0}) {
            for (int from : new int[] {0, 1, 3, 4, 5, MOST}) {
                book.due("from " + from + ", n " + n, mill.again(from, n), LineMill.BAD);
            }
        }
        book.due("n 1, and nothing came before", mill.again(0, 1), 5);
        book.due("n 2", mill.again(0, 2), 7);
        LineMill full = full(32768);
        book.due("n 0 on a full text", full.again(0, 0), LineMill.BAD);
        book.due("n 1 on a full text", full.again(0, 1), LineMill.FULL);
        book.due("n -1 on a full text", full.again(0, -1), LineMill.BAD);
    }

    private void againFull() {
        LineMill mill = full(32765);
        book.due("four at the end", mill.again(0, 4), LineMill.FULL);
        book.due("the whole text", mill.again(0, 32765), LineMill.FULL);
        book.due("two, and nothing came before", mill.again(0, 2), 32767);
        book.due("two at the end", mill.again(0, 2), LineMill.FULL);
        book.due("one", mill.again(0, 1), 32768);
        book.due("one behind the end", mill.again(0, 1), LineMill.FULL);
        book.due("the line is whole", mill.next(), 1);
        book.due("the last eight", mill.spelling(0, 4095), Checks.word("abcdeaba", 0));
        LineMill half = full(16385);
        book.due("more than half, twice", half.again(0, 16385), LineMill.FULL);
        book.due("one more than fits", half.again(0, 16384), LineMill.FULL);
        book.due("as many as fit", half.again(0, 16383), 32768);
    }

    private void clearEmpties() {
        for (int bytes : new int[] {0, 1, 8, 9, 32767, 32768}) {
            LineMill mill = bytes == 0 ? new LineMill() : Checks.mill("+");
            Checks.grow(mill, 0, bytes == 0 ? 0 : 1, bytes);
            mill.clear();
            book.due(bytes + " bytes: nothing is left", mill.next(), LineMill.NONE);
            book.due(bytes + " bytes: none comes again", mill.again(0, 1), LineMill.BAD);
            book.due(bytes + " bytes: there is room", mill.feed('+', 1), 1);
            book.due(bytes + " bytes: nothing stands behind", Checks.line(mill), "1 5:1*+");
        }
    }

    private void clearBegins() {
        LineMill mill = Checks.mill("#\n# a /*");
        mill.next();
        mill.clear();
        begun("behind a line", mill);
        Checks.feed(mill, "a\nb /*");
        mill.next();
        book.due("a fault", mill.next(), -11);
        mill.clear();
        begun("behind a fault", mill);
        Checks.feed(mill, "c");
        book.due("from line 1", Checks.line(mill), "1 1:1*c");
        book.due("nothing left", mill.next(), LineMill.NONE);
        mill.clear();
        begun("behind NONE", mill);
        mill.clear();
        begun("cleared twice", mill);
        for (String quoted : new String[] {"\"b\"", "'b'"}) {
            LineMill open = Checks.mill("abc " + quoted.charAt(0));
            book.due("a quote without an end", open.next(), 2);
            open.clear();
            Checks.feed(open, quoted);
            book.due("another with an end", open.next(), 1);
            book.due("all its bytes", open.token(0, 2), 3);
        }
    }

    private void clearAnswers() {
        LineMill mill = new LineMill();
        book.due("none", mill.clear(), 0);
        mill.feed('x', 1);
        book.due("one", mill.clear(), 1);
        book.due("none again", mill.clear(), 0);
        mill.feed('x', 2);
        mill.next();
        book.due("two, which were taken", mill.clear(), 2);
        Checks.grow(mill, 0, mill.feed('x', 1), 32767);
        book.due("one below the most", mill.clear(), 32767);
        Checks.grow(mill, 0, mill.feed('x', 1), 32768);
        mill.feed('x', 1);
        book.due("the most", mill.clear(), 32768);
    }

    private void begin() {
        LineMill mill = new LineMill();
        mill.begin();
        begun("an empty text", mill);
        book.due("nothing of it is left", mill.next(), LineMill.NONE);
        Checks.feed(mill, "# a\nb\nc /*");
        mill.begin();
        begun("before the first line", mill);
        book.due("the first", Checks.line(mill), "2 5:1*# 1:1*a");
        mill.begin();
        begun("behind the first", mill);
        book.due("the first again", Checks.line(mill), "2 5:1*# 1:1*a");
        book.due("the second", Checks.line(mill), "1 1:2*b");
        book.due("the fault", mill.next(), -11);
        mill.begin();
        begun("behind the fault", mill);
        Checks.feed(mill, "*/\n");
        book.due("the first behind the fault", Checks.line(mill), "2 5:1*# 1:1*a");
        book.due("the second behind the fault", Checks.line(mill), "1 1:2*b");
        book.due("the third, which has an end now", Checks.line(mill), "1 1:3*c");
        book.due("nothing left", mill.next(), LineMill.NONE);
        mill.begin();
        mill.begin();
        begun("begun twice", mill);
        book.due("the first at last", Checks.line(mill), "2 5:1*# 1:1*a");
        book.due("the text stays", mill.clear(), 13);
        for (char quote : "\"'".toCharArray()) {
            LineMill open = Checks.mill(quote + "a");
            book.due("a quote without an end", Checks.line(open), "2 6:1*" + quote + " 1:1.a");
            open.feed(quote, 1);
            open.begin();
            book.due("with the end that was fed", open.next(), 1);
            book.due("all its bytes", open.token(0, 2), 3);
        }
    }
}
