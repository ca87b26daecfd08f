/** Terms: the text, its bytes, splices, comments, and the lines that are left. */
final class TextBoundaries {
    private final Book book;

    TextBoundaries(Book book) {
        this.book = book;
    }

    void run() {
        book.test("Terms", "THE TEXT is a row of at most 32768 bytes.", this::atMostBytes);
        book.test("Terms", "LETTERS are A .. Z, a .. z and 95", this::letters);
        book.test("Terms", "DIGITS 0 .. 9", this::digits);
        book.test("Terms", "BLANKS 32, 9, 11, 12, 13", this::blanks);
        book.test("Terms", "LF is 10.", this::lineFeed);
        book.test("Terms", "In it a byte 92 directly before an LF goes, with that", this::splice);
        book.test("Terms", "(looked at as the bytes stand)", this::spliceAsTheBytesStand);
        book.test("Terms", "Then from / and * up to the next * and /", this::starComment);
        book.test("Terms", "and from two / up to the next LF (without it)", this::slashComment);
        book.test("Terms", "a blank stands in place: a COMMENT", this::commentIsABlank);
        book.test("Terms", "not within quotes.", this::commentWithinQuotes);
        book.test("Terms", "What is left are LINES, each up to an LF", this::lines);
        book.test("Terms", "of TOKENS with blanks between", this::blanksBetween);
    }

    private static int kindOf(int value) {
        LineMill mill = Checks.mill("" + (char) value);
        return mill.next() == 1 ? mill.token(0, 0) : 0;
    }

    private static int tokensOf(String text) {
        return Checks.mill(text).next();
    }

    private void atMostBytes() {
        LineMill mill = Checks.mill("abcdefgh");
        Checks.grow(mill, 0, 8, 32766);
        book.due("the 32767th byte", mill.feed('x', 1), 32767);
        book.due("two more are too many", mill.feed('x', 2), LineMill.FULL);
        book.due("the 32768th byte", mill.again(0, 1), 32768);
        book.due("a 32769th is fed", mill.feed('x', 1), LineMill.FULL);
        book.due("a 32769th comes again", mill.again(0, 1), LineMill.FULL);
        book.due("all of them are one name", mill.next(), 1);
        book.due("of 32768 bytes", mill.token(0, 2), 32768);
        book.due("the last eight", mill.spelling(0, 4095), Checks.word("abcdefxa", 0));
        LineMill blanks = Checks.mill(" ");
        Checks.grow(blanks, 0, 1, 32768);
        book.due("32768 blanks are one line", blanks.next(), 0);
        book.due("and nothing is left of them", blanks.next(), LineMill.NONE);
    }

    private void letters() {
        int[] values = {64, 65, 66, 89, 90, 91, 94, 95, 96, 97, 98, 121, 122, 123, 192, 223, 225};
        int[] kinds = {6, 1, 1, 1, 1, 5, 5, 1, 6, 1, 1, 1, 1, 5, 6, 6, 6};
        for (int i = 0; i < values.length; i++) {
            book.due("byte " + values[i] + " alone", kindOf(values[i]), kinds[i]);
            book.due("byte " + values[i] + " behind a letter", tokensOf("q" + (char) values[i]), kinds[i] == 1 ? 1 : 2);
        }
    }

    private void digits() {
        int[] values = {47, 48, 49, 56, 57, 58, 178, 185};
        int[] kinds = {5, 2, 2, 2, 2, 5, 6, 6};
        for (int i = 0; i < values.length; i++) {
            book.due("byte " + values[i] + " alone", kindOf(values[i]), kinds[i]);
            book.due("byte " + values[i] + " behind a letter", tokensOf("q" + (char) values[i]), kinds[i] == 2 ? 1 : 2);
            book.due("byte " + values[i] + " behind a point", tokensOf("." + (char) values[i]), kinds[i] == 2 ? 1 : 2);
        }
    }

    private void blanks() {
        for (int value : new int[] {9, 11, 12, 13, 32}) {
            book.line("a" + (char) value + "b", "2 1:1*a 1:1*b");
            book.due("byte " + value + " alone", kindOf(value), 0);
        }
        for (int value : new int[] {0, 7, 8, 14, 15, 31, 127, 133, 160}) {
            book.line("a" + (char) value + "b", "3 1:1*a 6:1." + (char) value + " 1:1.b");
        }
        book.line("a!b", "3 1:1*a 5:1.! 1:1.b");
        book.line("a\nb", "1 1:1*a");
    }

    private void lineFeed() {
        int[] values = {8, 9, 10, 11, 12, 13, 14};
        int[] tokens = {3, 2, 1, 2, 2, 2, 3};
        for (int i = 0; i < values.length; i++) {
            LineMill mill = Checks.mill("a" + (char) values[i] + "b");
            book.due("tokens before or around byte " + values[i], mill.next(), tokens[i]);
            book.due("lines at byte " + values[i], mill.told(3), values[i] == 10 ? 2 : 1);
            book.due("what is left behind byte " + values[i], mill.next(), values[i] == 10 ? 1 : LineMill.NONE);
        }
        book.line("a\r\nb", "1 1:1*a");
    }

    private void splice() {
        book.line("a\\\nb", "1 1:1*ab");
        book.line("a[\nb", "2 1:1*a 5:1.[");
        book.line("a]\nb", "2 1:1*a 5:1.]");
        book.line("a\nb", "1 1:1*a");
        book.line("a\\\tb", "3 1:1*a 6:1.\\ 1:1*b");
        book.line("a\\\u000bb", "3 1:1*a 6:1.\\ 1:1*b");
        book.line("a\\ \nb", "2 1:1*a 6:1.\\");
        book.line("a\\\r\nb", "2 1:1*a 6:1.\\");
        book.line("\\\na", "1 1:2*a");
        book.line("a\\\n", "1 1:1*a");
        book.line("a\\", "2 1:1*a 6:1.\\");
        book.line("\\", "1 6:1*\\");
        book.line("\\\n", "-2");
        book.line("a\\\n\\\n\\\nb", "1 1:1*ab");
        book.line("a /\\\n/ \\\n b\nc", "1 1:1*a");
        book.line("'a\\\nb'", "1 4:1*'ab'");
    }

    private void spliceAsTheBytesStand() {
        LineMill one = Checks.mill("a\\\n\nb");
        book.due("92 LF LF: one line", Checks.line(one), "1 1:1*a");
        book.due("92 LF LF: the other", Checks.line(one), "1 1:3*b");
        book.line("a\\\\\nb", "3 1:1*a 6:1.\\ 1:2.b");
        LineMill two = Checks.mill("a\\\\\n\nb");
        book.due("a 92 that comes before an LF by splicing stays", Checks.line(two), "2 1:1*a 6:1.\\");
        book.due("and so does the LF", Checks.line(two), "1 1:3*b");
        book.line("a\\\\\\\n\nb", "3 1:1*a 6:1.\\ 6:1.\\");
        book.line("a\\\\\n\\\n\nb", "2 1:1*a 6:1.\\");
        book.line("a\\\\\n\\\nb", "3 1:1*a 6:1.\\ 1:3.b");
    }

    private void starComment() {
        book.line("a/*/b", "-11");
        book.line("a/**/b", "2 1:1*a 1:1*b");
        book.line("a/***/b", "2 1:1*a 1:1*b");
        book.line("a/****/b", "2 1:1*a 1:1*b");
        book.line("a/*/*/b", "2 1:1*a 1:1*b");
        book.cut("a/*x*/*/b", "a|*|/|b");
        book.cut("a/*x**/b", "a|b");
        book.cut("a/*x* /*/b", "a|b");
        book.cut("a/ *x*/b", "a|/|*|x|*|/|b");
        book.cut("a/)x*/b", "a|/|)|x|*|/|b");
        book.cut("a/+x*/b", "a|/|+|x|*|/|b");
        book.cut("a.*x*/b", "a|.|*|x|*|/|b");
        book.cut("a0*x*/b", "a0|*|x|*|/|b");
        book.cut("a/*x*.*0*/b", "a|b");
        book.cut("a/*x)/+/*/b", "a|b");
        book.cut("a*/b", "a|*|/|b");
        book.line("a/\\\n*x*\\\n/b", "2 1:1*a 1:3*b");
        book.line("a/*\n\n*/b\nc", "2 1:1*a 1:3*b");
    }

    private void slashComment() {
        book.line("a/b\nc", "3 1:1*a 5:1./ 1:1.b");
        book.line("a//b\nc", "1 1:1*a");
        book.line("a///b\nc", "1 1:1*a");
        book.line("a/ /b\nc", "4 1:1*a 5:1./ 5:1*/ 1:1.b");
        book.cut("a/.b", "a|/|.|b");
        book.cut("a/0b", "a|/|0b");
        book.cut("a./b", "a|.|/|b");
        book.line("//\nc", "0");
        LineMill mill = Checks.mill("a//\nc//\t\u000b\f\r \n\nd");
        book.due("an LF directly behind it", Checks.line(mill), "1 1:1*a");
        book.due("the LF is not in it", Checks.line(mill), "1 1:2*c");
        book.due("nor the one behind blanks", Checks.line(mill), "0");
        book.due("the line behind", Checks.line(mill), "1 1:4*d");
        book.line("a//b\\\nc\nd", "1 1:1*a");
        book.line("a/\\\n/b\nc", "1 1:1*a");
        book.line("a//b", "1 1:1*a");
        book.line("a//", "1 1:1*a");
    }

    private void commentIsABlank() {
        book.line("ab", "1 1:1*ab");
        book.line("a b", "2 1:1*a 1:1*b");
        book.line("a/**/b", "2 1:1*a 1:1*b");
        book.line("++", "1 5:1*++");
        book.line("+/**/+", "2 5:1*+ 5:1*+");
        book.line("1/**/2", "2 2:1*1 2:1*2");
        book.line("L/**/'a'", "2 1:1*L 4:1*'a'");
        book.line("//**/\n", "0");
        book.line("/**/ /**/", "0");
        book.line("//**/**/a", "0");
        book.line("/*/**//**/a", "1 1:1*a");
        book.line("/**//*", "-11");
    }

    private void commentWithinQuotes() {
        book.line("\"/**/\"a", "2 3:1*\"/**/\" 1:1.a");
        book.line("'//'a", "2 4:1*'//' 1:1.a");
        book.line("'/*'a", "2 4:1*'/*' 1:1.a");
        book.line("''/**/a", "2 4:1*'' 1:1*a");
        book.line("/**/''a", "2 4:1*'' 1:1.a");
        book.line("'/**/a", "2 6:1*' 1:1*a");
        book.line("'//a", "1 6:1*'");
        book.line("/*'*/a'", "2 1:1*a 6:1.'");
        book.line("//'\n'", "0");
        book.line("'/*\n*/a", "2 6:1*' 1:2*a");
        book.line("/'/*'", "2 5:1*/ 4:1.'/*'");
    }

    private void lines() {
        String[] texts = {"", "a", "\n", "a\n", "\na", "a\nb", "a\nb\n", "\n\n", "a\n\nb", "\\\n", "\\\n\n", "\n\\\n", " "};
        String[] tokens = {"", "1", "0", "1", "0 1", "1 1", "1 1", "0 0", "1 0 1", "", "0", "0", "0"};
        for (int i = 0; i < texts.length; i++) {
            LineMill mill = Checks.mill(texts[i]);
            StringBuilder answers = new StringBuilder();
            int answer = mill.next();
            for (int turn = 0; turn < 5 && answer >= 0; turn++) {
                answers.append(' ').append(answer);
                answer = mill.next();
            }
            book.due("lines of <" + texts[i] + ">", answers.toString().trim(), tokens[i]);
            book.due("behind <" + texts[i] + ">", answer, LineMill.NONE);
        }
    }

    private void blanksBetween() {
        book.line("ab", "1 1:1*ab");
        book.line("a b", "2 1:1*a 1:1*b");
        book.line("a  b", "2 1:1*a 1:1*b");
        book.line("a \t\u000b\f\r b", "2 1:1*a 1:1*b");
        book.line(" a", "1 1:1*a");
        book.line("a ", "1 1:1*a");
        book.line(" ", "0");
        book.line("", "-2");
        book.line("a+b", "3 1:1*a 5:1.+ 1:1.b");
    }
}
