/** Terms: how far each kind of token reaches, and what a token has. */
final class TokenBoundaries {
    private static final String SIGN_LIST = "... <<= >>= -> ++ -- << >> <= >= == != && || *= /= %= += -= &= ^= |= ## "
        + "# [ ] ( ) { } . & * + - ~ ! / % < > ^ | ? : ; = ,";
    private static final String[] SIGNS = SIGN_LIST.split(" ");
    private static final String SIGN_BYTES = "#[](){}.&*+-~!/%<>^|?:;=,";

    private final Book book;

    TokenBoundaries(Book book) {
        this.book = book;
    }

    void run() {
        book.test("Terms", "the longest NAME (a letter, and letters and digits behind it)", this::name);
        book.test("Terms", "the longest NUMBER: a digit, or a point and a digit", this::numberBegins);
        book.test("Terms", "and behind it digits, letters, points, and + or - behind e, E, p, P", this::numberGoesOn);
        book.test("Terms", "a QUOTED one: from a byte 34 (a TEXT) or 39 (a CHARACTER)", this::quotedOne);
        book.test("Terms", "perhaps a L before it", this::wideOne);
        book.test("Terms", "to the next one in the line", this::quoteEnds);
        book.test("Terms", "92 taking the byte behind it along", this::takenAlong);
        book.test("Terms", "(a quote without an end is a token by itself, and L before it a name", this::openQuote);
        book.test("Terms", "comments count for nothing in looking for the end)", this::commentsInTheSearch);
        book.test("Terms", "the longest of the SIGNS " + SIGN_LIST, this::signs);
        book.test("Terms", "any other byte.", this::otherBytes);
        book.test("Terms", "A token has its LINE, 1 more than the LFs before its first byte in the text",
            this::lineOfAToken);
        book.test("Terms", "BEFORE: whether a blank, a comment or the line's beginning stands before it",
            this::before);
        book.test("Terms", "and its SPELLING, the bytes that are left of it.", this::spelling);
    }

    private void name() {
        book.line("a", "1 1:1*a");
        book.line("_", "1 1:1*_");
        book.line("a1", "1 1:1*a1");
        book.line("1a", "1 2:1*1a");
        book.line("aZ_z09A", "1 1:1*aZ_z09A");
        for (char c : "@[^`{/:.$\u0080\u00e4".toCharArray()) {
            book.cut("a" + c + "b1", "a|" + c + "|b1");
        }
        book.cut("a b", "a|b");
        book.cut("a\\\nb", "ab");
        LineMill mill = Checks.mill("a1_Zz0b9");
        Checks.grow(mill, 0, 8, 32766);
        Checks.feed(mill, "+c");
        book.due("a name of 32766 bytes and two tokens", mill.next(), 3);
        book.due("its bytes", mill.token(0, 2), 32766);
    }

    private void numberBegins() {
        book.line("0", "1 2:1*0");
        book.line("9", "1 2:1*9");
        book.line(".", "1 5:1*.");
        book.line(".0", "1 2:1*.0");
        book.line(".9", "1 2:1*.9");
        book.line("./", "2 5:1*. 5:1./");
        book.line(".:", "2 5:1*. 5:1.:");
        book.line(".a", "2 5:1*. 1:1.a");
        book.line(". 5", "2 5:1*. 2:1*5");
        book.line("..5", "2 5:1*. 2:1..5");
        book.line("...5", "2 5:1*... 2:1.5");
        book.line("....5", "2 5:1*... 2:1..5");
        book.line(".\\\n5", "1 2:1*.5");
        book.line("a.5", "2 1:1*a 2:1..5");
        book.line("-5", "2 5:1*- 2:1.5");
        book.line("e+5", "3 1:1*e 5:1.+ 2:1.5");
    }

    private void numberGoesOn() {
        for (char c : ".09AZ_az".toCharArray()) {
            book.cut("1" + c + "2", "1" + c + "2");
        }
        for (char c : "/:@[^`{*,+-#\u0080".toCharArray()) {
            book.cut("1" + c + "2", "1|" + c + "|2");
        }
        for (char c : "DEFOPQdefopq".toCharArray()) {
            boolean exponent = "EePp".indexOf(c) >= 0;
            book.cut("1" + c + "+2", exponent ? "1" + c + "+2" : "1" + c + "|+|2");
            book.cut(".1" + c + "-2", exponent ? ".1" + c + "-2" : ".1" + c + "|-|2");
            book.cut("1" + c + "*2", "1" + c + "|*|2");
            book.cut("1" + c + ",2", "1" + c + "|,|2");
            book.cut("1" + c, "1" + c);
        }
        book.cut("1e+", "1e+");
        book.cut("1e++2", "1e+|+|2");
        book.cut("1e+-2", "1e+|-|2");
        book.cut("1e+e-2", "1e+e-2");
        book.cut("1e3+2", "1e3|+|2");
        book.cut("1e.+2", "1e.|+|2");
        book.cut("1e +2", "1e|+|2");
        book.cut("1e\\\n+\\\n2", "1e+2");
        book.cut(".e+2", ".|e|+|2");
        book.cut("1..2...", "1..2...");
    }

    private void quotedOne() {
        book.line("\"a\"", "1 3:1*\"a\"");
        book.line("'a'", "1 4:1*'a'");
        for (char c : "!#&(".toCharArray()) {
            book.line(c + "a" + c, "3 5:1*" + c + " 1:1.a 5:1." + c);
        }
        book.line("`a`", "3 6:1*` 1:1.a 6:1.`");
        book.line("L\"a\"L'a'", "2 3:1*L\"a\" 4:1.L'a'");
    }

    private void wideOne() {
        book.line("'a'", "1 4:1*'a'");
        book.line("L'a'", "1 4:1*L'a'");
        book.line("K'a'", "2 1:1*K 4:1.'a'");
        book.line("M'a'", "2 1:1*M 4:1.'a'");
        book.line("l\"a\"", "2 1:1*l 3:1.\"a\"");
        book.line("LL\"a\"", "2 1:1*LL 3:1.\"a\"");
        book.line("1L'a'", "2 2:1*1L 4:1.'a'");
        book.line("L 'a'", "2 1:1*L 4:1*'a'");
        book.line("L\\\n'a'", "1 4:1*L'a'");
        book.line(";L''", "2 5:1*; 4:1.L''");
        book.line("''L''", "2 4:1*'' 4:1.L''");
        book.line("L", "1 1:1*L");
    }

    private void quoteEnds() {
        book.line("'", "1 6:1*'");
        book.line("''", "1 4:1*''");
        book.line("'''", "2 4:1*'' 6:1.'");
        book.line("''''", "2 4:1*'' 4:1.''");
        book.line("'a'b'", "3 4:1*'a' 1:1.b 6:1.'");
        book.line("'\"'", "1 4:1*'\"'");
        book.line("\"'\"", "1 3:1*\"'\"");
        book.line("\"''\"'", "2 3:1*\"''\" 6:1.'");
        book.line("'a\n'", "2 6:1*' 1:1.a");
        book.line("'\n'", "1 6:1*'");
        book.line("'a\\\n'", "1 4:1*'a'");
        book.line("'a\r'", "1 4:1*'a\r'");
        book.line("'&(", "3 6:1*' 5:1.& 5:1.(");
        LineMill mill = Checks.mill("\"a'\n'\"'\n\"\"");
        book.due("none in this line", Checks.line(mill), "3 6:1*\" 1:1.a 6:1.'");
        book.due("one in the next", Checks.line(mill), "1 4:2*'\"'");
        book.due("and in the last", Checks.line(mill), "1 3:3*\"\"");
    }

    private void takenAlong() {
        book.line("'[''", "2 4:1*'[' 6:1.'");
        book.line("'\\''", "1 4:1*'\\''");
        book.line("']''", "2 4:1*']' 6:1.'");
        book.line("'\\'", "3 6:1*' 6:1.\\ 6:1.'");
        book.line("'\\\\'", "1 4:1*'\\\\'");
        book.line("'\\\\''", "2 4:1*'\\\\' 6:1.'");
        book.line("'\\\\\\''", "1 4:1*'\\\\\\''");
        book.line("'\\a'", "1 4:1*'\\a'");
        book.line("\"\\\"\"", "1 3:1*\"\\\"\"");
        book.line("'\\\"'", "1 4:1*'\\\"'");
        book.line("'\\\\\n''", "1 4:1*'\\''");
        book.line("'\\", "2 6:1*' 6:1.\\");
        book.line("'\\\\\n\n'", "2 6:1*' 6:1.\\");
        book.line("\\'a'", "2 6:1*\\ 4:1.'a'");
    }

    private void openQuote() {
        book.line("'", "1 6:1*'");
        book.line("\"a", "2 6:1*\" 1:1.a");
        book.line("\"a\"", "1 3:1*\"a\"");
        book.line("L'", "2 1:1*L 6:1.'");
        book.line("L'a", "3 1:1*L 6:1.' 1:1.a");
        book.line("L'a'", "1 4:1*L'a'");
        book.line("L\\\n\"", "2 1:1*L 6:2.\"");
        book.line("\"L'a'", "2 6:1*\" 4:1.L'a'");
        book.line("'\\'\\'", "5 6:1*' 6:1.\\ 6:1.' 6:1.\\ 6:1.'");
        book.line("'L\\'", "4 6:1*' 1:1.L 6:1.\\ 6:1.'");
        book.line("\"'\n", "2 6:1*\" 6:1.'");
        book.line("'12 +=", "3 6:1*' 2:1.12 5:1*+=");
    }

    private void commentsInTheSearch() {
        book.line("' /* ' */ x", "4 4:1*' /* ' 5:1** 5:1./ 1:1*x");
        book.line("'/*'*/'", "4 4:1*'/*' 5:1.* 5:1./ 6:1.'");
        book.line("' // ' x", "2 4:1*' // ' 1:1*x");
        book.line("L' // ' x", "2 4:1*L' // ' 1:1*x");
        book.line("' // x", "1 6:1*'");
        book.line("' /* x */ y", "2 6:1*' 1:1*y");
        book.line("' /*\n' */ y", "2 6:1*' 1:2*y");
        book.line("' /*\n*/ 'y'", "2 6:1*' 4:2*'y'");
        book.line("' /*\n*/ y '", "3 6:1*' 1:2*y 6:2*'");
    }

    private void signs() {
        for (String sign : SIGNS) {
            book.line(sign, "1 5:1*" + sign);
            book.line("a" + sign + "\\\nb", "3 1:1*a 5:1." + sign + " 1:2.b");
        }
        for (char first : SIGN_BYTES.toCharArray()) {
            for (char second : SIGN_BYTES.toCharArray()) {
                signsFrom("" + first + second);
            }
        }
        book.cut("<\\\n<\\\n= .\\\n. .\\\n.\\\n.", "<<=|.|.|...");
        book.cut("< <= <<= <<<= <<<<=", "<|<=|<<=|<<|<=|<<|<<=");
        book.cut(". .. ... .... .....", ".|.|.|...|...|.|...|.|.");
    }

    /** All signs of three bytes that begin with these two, held against a search through the list. */
    private void signsFrom(String two) {
        StringBuilder text = new StringBuilder();
        StringBuilder want = new StringBuilder();
        for (char third : SIGN_BYTES.toCharArray()) {
            String three = two + third;
            if (!three.contains("//") && !three.contains("/*")) {
                text.append(three).append(' ');
                want.append(want.length() == 0 ? "" : "|").append(longest(three));
            }
        }
        book.cut(text.toString(), want.toString());
    }

    private static String longest(String bytes) {
        StringBuilder out = new StringBuilder();
        int at = 0;
        while (at < bytes.length()) {
            String best = "";
            for (String sign : SIGNS) {
                best = bytes.startsWith(sign, at) && sign.length() > best.length() ? sign : best;
            }
            out.append(at == 0 ? "" : "|").append(best);
            at += best.length();
        }
        return out.toString();
    }

    private void otherBytes() {
        for (int value : new int[] {0, 1, 8, 14, 31, 36, 64, 92, 96, 127, 128, 254, 255}) {
            char c = (char) value;
            book.line("" + c + c, "2 6:1*" + c + " 6:1." + c);
        }
        for (char c : "!#%*,/:;?[]^{|}~".toCharArray()) {
            book.line("" + c, "1 5:1*" + c);
        }
        book.line("'$\"", "3 6:1*' 6:1.$ 6:1.\"");
    }

    private void lineOfAToken() {
        book.line("a", "1 1:1*a");
        book.line("\\\na", "1 1:2*a");
        book.line("\\\n\\\na", "1 1:3*a");
        book.line("a\\\nb\n", "1 1:1*ab");
        book.line("a \\\nb", "2 1:1*a 1:2*b");
        book.line("/*\n*/a/*\n\n*/b", "2 1:2*a 1:4*b");
        book.line("'a\\\nb'c", "2 4:1*'ab' 1:2.c");
        LineMill mill = Checks.mill("\na\n\nb");
        book.due("an empty line", Checks.line(mill), "0");
        book.due("behind one LF", Checks.line(mill), "1 1:2*a");
        book.due("an empty line more", Checks.line(mill), "0");
        book.due("behind three LFs", Checks.line(mill), "1 1:4*b");
        LineMill many = Checks.mill("/*\n");
        Checks.grow(many, 2, 3, 32765);
        Checks.feed(many, "*/x");
        book.due("behind 32763 LFs", Checks.line(many), "1 1:32764*x");
    }

    private void before() {
        book.line("+", "1 5:1*+");
        book.line("-+", "2 5:1*- 5:1.+");
        book.line("- +", "2 5:1*- 5:1*+");
        book.line("-/**/+", "2 5:1*- 5:1*+");
        book.line("-\\\n+", "2 5:1*- 5:2.+");
        book.line("- \\\n+", "2 5:1*- 5:2*+");
        book.line("-\\\n\\\n +", "2 5:1*- 5:3*+");
        book.line("\\\n+", "1 5:2*+");
        book.line(" +", "1 5:1*+");
        book.line("/**/+", "1 5:1*+");
        book.line("'+'+' +", "4 4:1*'+' 5:1.+ 6:1.' 5:1*+");
        for (char c : "\t\u000b\f\r".toCharArray()) {
            book.line("-" + c + "+", "2 5:1*- 5:1*+");
        }
        LineMill mill = Checks.mill("a;\n+;\n");
        book.due("the first line", Checks.line(mill), "2 1:1*a 5:1.;");
        book.due("behind an LF", Checks.line(mill), "2 5:2*+ 5:2.;");
    }

    private void spelling() {
        book.line("ab", "1 1:1*ab");
        book.line("a\\\nb", "1 1:1*ab");
        book.line("a\\\n\\\nb\\\n", "1 1:1*ab");
        book.line("'\\\n/\\\n**/\\\n'", "1 4:1*'/**/'");
        book.line("'\\\\\nn'", "1 4:1*'\\n'");
        book.line("'\u0000\u0080\u00ff '", "1 4:1*'\u0000\u0080\u00ff '");
        LineMill mill = Checks.mill("a\\\n");
        Checks.grow(mill, 0, 3, 32766);
        Checks.feed(mill, "b;");
        book.due("10922 splices in a name", mill.next(), 2);
        book.due("the bytes that are left", mill.token(0, 2), 10923);
        book.due("the last of them", mill.spelling(0, 1365), Checks.word("aab", 0));
        book.due("the line of its first byte", mill.token(0, 1), 1);
        book.due("the line behind it", mill.token(1, 1), 10923);
    }
}
