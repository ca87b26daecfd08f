/** Each promise of the document, and its terms, with ordinary inputs, edges and wrong inputs. */
public final class PromiseTest {
    private static final Checks checks = new Checks();

    public static void main(String[] args) {
        newObject();
        feed();
        feedBehindTaken();
        again();
        clear();
        begin();
        next();
        told();
        token();
        spelling();
        splices();
        comments();
        quotes();
        openQuotes();
        wideQuotes();
        namesAndNumbers();
        signs();
        otherBytes();
        commentFault();
        checks.finish("PromiseTest");
    }

    private static void line(String what, LineMill mill, String want) {
        checks.due(what, Checks.line(mill), want);
    }

    private static void cut(String text, String want) {
        checks.due("cutting <" + text + ">", Checks.cut(text), want);
    }

    private static void newObject() {
        LineMill mill = new LineMill();
        checks.due("1: told(0)", mill.told(0), 0);
        checks.due("1: told(1)", mill.told(1), 0);
        checks.due("1: told(2)", mill.told(2), 0);
        checks.due("1: told(3)", mill.told(3), 1);
        checks.due("1: token", mill.token(0, 0), LineMill.BAD);
        checks.due("1: spelling", mill.spelling(0, 0), 0);
        checks.due("1: next", mill.next(), LineMill.NONE);
        checks.due("1: told(3) behind NONE", mill.told(3), 1);
        checks.due("1: clear", mill.clear(), 0);
    }

    private static void feed() {
        LineMill mill = new LineMill();
        checks.due("2: n 0", mill.feed('x', 0), LineMill.BAD);
        checks.due("2: n 9", mill.feed('x', 9), LineMill.BAD);
        checks.due("2: n -1", mill.feed('x', -1), LineMill.BAD);
        checks.due("2: n least", mill.feed('x', Integer.MIN_VALUE), LineMill.BAD);
        checks.due("2: n most", mill.feed('x', Integer.MAX_VALUE), LineMill.BAD);
        checks.due("2: still empty", mill.next(), LineMill.NONE);
        checks.due("2: one byte of eight", mill.feed(Checks.word("abcdefgh", 0), 1), 1);
        checks.due("2: eight", mill.feed(Checks.word("ijklmnop", 0), 8), 9);
        line("2: lowest first", mill, "1 1:1*aijklmnop");
        LineMill high = new LineMill();
        checks.due("2: high bytes", high.feed(-1L, 3), 3);
        line("2: high bytes are bytes", high, "3 6:1*\u00ff 6:1.\u00ff 6:1.\u00ff");
    }

    private static void feedBehindTaken() {
        LineMill mill = Checks.mill("x");
        line("2: a line that ends with the text", mill, "1 1:1*x");
        Checks.feed(mill, "y z\nw");
        checks.due("2: the line at hand stays", mill.token(0, 2), 1);
        line("2: goes on", mill, "2 1:1*y 1:1*z");
        line("2: next", mill, "1 1:2*w");
        mill.begin();
        line("2: whole when begun again", mill, "2 1:1*xy 1:1*z");

        LineMill spliced = Checks.mill("x\\");
        line("2: 92 at the end", spliced, "2 1:1*x 6:1.\\");
        Checks.feed(spliced, "\n#");
        checks.due("2: 92 stays a token", spliced.spelling(1, 0), 92);
        checks.due("2: of one byte", spliced.token(1, 2), 1);
        line("2: LF behind the taken 92", spliced, "0");
        line("2: the line behind it", spliced, "1 5:2*#");
        checks.due("2: is a directive", spliced.told(0), 1);

        LineMill comment = Checks.mill("a //");
        line("2: a comment at the text's end", comment, "1 1:1*a");
        Checks.feed(comment, " b\n");
        line("2: stays taken", comment, "1 1:1*b");
        line("2: nothing left", comment, "-2");
    }

    private static void again() {
        LineMill mill = new LineMill();
        checks.due("3: empty text", mill.again(0, 1), LineMill.BAD);
        checks.due("3: nothing of an empty text", mill.again(0, 0), LineMill.BAD);
        Checks.feed(mill, "abcd");
        checks.due("3: n 0", mill.again(0, 0), LineMill.BAD);
        checks.due("3: n -1", mill.again(1, -1), LineMill.BAD);
        checks.due("3: from -1", mill.again(-1, 1), LineMill.BAD);
        checks.due("3: one too many", mill.again(0, 5), LineMill.BAD);
        checks.due("3: from the end", mill.again(4, 1), LineMill.BAD);
        checks.due("3: over the end", mill.again(3, 2), LineMill.BAD);
        checks.due("3: sum wraps", mill.again(1, Integer.MAX_VALUE), LineMill.BAD);
        checks.due("3: from most", mill.again(Integer.MAX_VALUE, 1), LineMill.BAD);
        checks.due("3: from most, n most", mill.again(Integer.MAX_VALUE, Integer.MAX_VALUE), LineMill.BAD);
        checks.due("3: n least", mill.again(0, Integer.MIN_VALUE), LineMill.BAD);
        checks.due("3: the middle", mill.again(1, 2), 6);
        checks.due("3: the last", mill.again(5, 1), 7);
        checks.due("3: all", mill.again(0, 7), 14);
        line("3: came behind", mill, "1 1:1*abcdbccabcdbcc");
    }

    private static void clear() {
        LineMill mill = Checks.mill("# a\nb");
        line("4: before", mill, "2 5:1*# 1:1*a");
        checks.due("4: had", mill.clear(), 5);
        checks.due("4: no line at hand", mill.told(0), 0);
        checks.due("4: no token", mill.token(0, 0), LineMill.BAD);
        checks.due("4: no spelling", mill.spelling(0, 0), 0);
        checks.due("4: lines", mill.told(1), 0);
        checks.due("4: next line", mill.told(3), 1);
        checks.due("4: nothing left", mill.next(), LineMill.NONE);
        checks.due("4: again of the former text", mill.again(0, 1), LineMill.BAD);
        checks.due("4: empty", mill.clear(), 0);
        Checks.feed(mill, "/*");
        checks.due("4: fault", mill.next(), -11);
        mill.clear();
        checks.due("4: fault's line", mill.told(2), 0);
        Checks.feed(mill, "c");
        line("4: another text", mill, "1 1:1*c");
    }

    private static void begin() {
        LineMill mill = Checks.mill("# a\nb /*");
        line("5: first", mill, "2 5:1*# 1:1*a");
        mill.begin();
        checks.due("5: no line at hand", mill.told(0), 0);
        checks.due("5: no token", mill.token(0, 0), LineMill.BAD);
        checks.due("5: lines", mill.told(1), 0);
        checks.due("5: next line", mill.told(3), 1);
        line("5: first again", mill, "2 5:1*# 1:1*a");
        checks.due("5: fault", mill.next(), -11);
        checks.due("5: fault's line", mill.told(2), 2);
        mill.begin();
        checks.due("5: fault is gone", mill.told(2), 0);
        line("5: first behind the fault", mill, "2 5:1*# 1:1*a");
        checks.due("5: lines since", mill.told(1), 1);
    }

    private static void next() {
        LineMill mill = Checks.mill("\n  \t\u000b\f\r\na\n \\\nb\n//\n/*\n*/\nc");
        line("6: empty", mill, "0");
        line("6: blanks", mill, "0");
        line("6: a name", mill, "1 1:3*a");
        line("6: behind a blank and a splice", mill, "1 1:5*b");
        line("6: two slashes", mill, "0");
        line("6: a comment over lines", mill, "0");
        line("6: no LF at the end", mill, "1 1:9*c");
        line("6: nothing left", mill, "-2");
        line("6: nothing left again", mill, "-2");
        LineMill blanks = Checks.mill("  ");
        line("6: blanks alone are left", blanks, "0");
        line("6: and gone", blanks, "-2");
        LineMill splice = Checks.mill("\\\n\\\n");
        checks.due("6: splices: told(3)", splice.told(3), 1);
        line("6: splices leave nothing", splice, "-2");
        checks.due("6: splices passed: told(3)", splice.told(3), 3);
        Checks.feed(splice, "x");
        line("6: behind them", splice, "1 1:3*x");
    }

    private static void told() {
        LineMill mill = Checks.mill("#a\n\n##\n a#\n/*\n*/#\\\n\n\"#\"\n\\\n#\n/*");
        int[] answers = {2, 0, 1, 2, 1, 1, 1};
        int[] hash = {1, 0, 0, 0, 1, 0, 1};
        int[] lines = {1, 1, 2, 3, 4, 5, 6};
        int[] begins = {2, 3, 4, 5, 8, 9, 11};
        for (int i = 0; i < answers.length; i++) {
            checks.due("7: next " + i, mill.next(), answers[i]);
            checks.due("7: told(0) " + i, mill.told(0), hash[i]);
            checks.due("7: told(1) " + i, mill.told(1), lines[i]);
            checks.due("7: told(2) " + i, mill.told(2), 0);
            checks.due("7: told(3) " + i, mill.told(3), begins[i]);
        }
        checks.due("7: fault", mill.next(), -11);
        for (int i = 0; i < 2; i++) {
            checks.due("7: told(0) behind a fault", mill.told(0), 0);
            checks.due("7: told(1) behind a fault", mill.told(1), 6);
            checks.due("7: told(2) behind a fault", mill.told(2), 11);
            checks.due("7: told(3) behind a fault", mill.told(3), 0);
            checks.due("7: next behind a fault", mill.next(), LineMill.NONE);
        }
        for (int what : new int[] {-1, 4, 5, Integer.MIN_VALUE, Integer.MAX_VALUE}) {
            checks.due("7: told(" + what + ")", mill.told(what), LineMill.BAD);
        }
        LineMill none = Checks.mill("#");
        none.next();
        checks.due("7: told(0)", none.told(0), 1);
        none.next();
        checks.due("7: told(0) behind NONE", none.told(0), 0);
        checks.due("7: told(1) behind NONE", none.told(1), 1);
        checks.due("7: told(3) behind NONE", none.told(3), 1);
    }

    private static void token() {
        LineMill mill = Checks.mill("a+ 12\\\n \"t\" 'c'/**/@\n");
        line("8: kinds, lines, before", mill, "6 1:1*a 5:1.+ 2:1*12 3:2*\"t\" 4:2*'c' 6:2*@");
        checks.due("8: kind of 0", mill.token(0, 0), 1);
        checks.due("8: bytes of 2", mill.token(2, 2), 2);
        checks.due("8: 0 is the first", mill.token(0, 4), 1);
        checks.due("8: 1 is not", mill.token(1, 4), 0);
        checks.due("8: 5 is not", mill.token(5, 4), 0);
        for (int what : new int[] {-1, 5, Integer.MIN_VALUE, Integer.MAX_VALUE}) {
            checks.due("8: what " + what, mill.token(0, what), LineMill.BAD);
        }
        for (int i : new int[] {-1, 6, 7999, 8000, Integer.MIN_VALUE, Integer.MAX_VALUE}) {
            for (int what = 0; what <= 4; what++) {
                checks.due("8: token " + i, mill.token(i, what), LineMill.BAD);
            }
        }
        mill.next();
        checks.due("8: behind NONE", mill.token(0, 0), LineMill.BAD);
        LineMill fault = Checks.mill("a\nb /*");
        fault.next();
        fault.next();
        checks.due("8: behind a fault", fault.token(0, 0), LineMill.BAD);
        checks.due("9: behind a fault", fault.spelling(0, 0), 0);
    }

    private static void spelling() {
        LineMill mill = Checks.mill("abcdefgh ijklmnopq \"\u0000\u0080\u00ff \\\n\u00fe\u00fd\u00fc\" r");
        mill.next();
        checks.due("9: eight bytes", mill.spelling(0, 0), Checks.word("abcdefgh", 0));
        checks.due("9: none behind them", mill.spelling(0, 1), 0);
        checks.due("9: of nine", mill.spelling(1, 0), Checks.word("ijklmnop", 0));
        checks.due("9: the ninth", mill.spelling(1, 1), 'q');
        checks.due("9: behind the ninth", mill.spelling(1, 2), 0);
        checks.due("9: high bytes over a splice", mill.spelling(2, 0),
            Checks.word("\"\u0000\u0080\u00ff \u00fe\u00fd\u00fc\"", 0));
        checks.due("9: the last of them", mill.spelling(2, 1), '"');
        checks.due("9: one byte", mill.spelling(3, 0), 'r');
        for (int k : new int[] {-1, 1, 2, 1 << 28, 1 << 29, Integer.MIN_VALUE, Integer.MAX_VALUE}) {
            checks.due("9: k " + k, mill.spelling(3, k), 0);
        }
        for (int i : new int[] {-1, 4, 8000, Integer.MIN_VALUE, Integer.MAX_VALUE}) {
            checks.due("9: token " + i, mill.spelling(i, 0), 0);
        }
    }

    private static void splices() {
        LineMill mill = Checks.mill("a\\\n\\\nb+\\\n+\\\n c\\\\\n\nd\\\r\ne");
        line("spliced", mill, "4 1:1*ab 5:3.++ 1:5*c 6:5.\\");
        line("behind a 92 that is left, and with 92 13", mill, "2 1:7*d 6:7.\\");
        line("the last", mill, "1 1:8*e");
        line("only a 92 directly before an LF", Checks.mill("a\\ \nb"), "2 1:1*a 6:1.\\");
        cut("1\\\n.\\\n5e\\\n+\\\n3 .\\\n5 .\\\n.\\\n. <\\\n<\\\n=", "1.5e+3|.5|...|<<=");
        cut("'a\\\\\n'b' c", "'a\\'b'|c");
        cut("L\\\n\"x\\\ny\\\n\" z", "L\"xy\"|z");
        LineMill tail = Checks.mill("x \\\n");
        line("a splice at the text's end", tail, "1 1:1*x");
        checks.due("told(3) behind it", tail.told(3), 2);
        line("nothing behind it", tail, "-2");
    }

    private static void comments() {
        line("comment as a blank", Checks.mill("a/*b*/c"), "2 1:1*a 1:1*c");
        line("slash, star, slash is no end", Checks.mill("a/*/b*/c"), "2 1:1*a 1:1*c");
        line("many stars", Checks.mill("/***/a/****/b"), "2 1:1*a 1:1*b");
        line("over lines", Checks.mill("a/*\n\n*/b\n"), "2 1:1*a 1:3*b");
        line("no comment within one", Checks.mill("/*/*\n//*/a*/"), "3 1:2*a 5:2.* 5:2./");
        line("two slashes", Checks.mill("a//b/*\nc"), "1 1:1*a");
        line("two slashes and a star", Checks.mill("a //* b\nc"), "1 1:1*a");
        line("spliced", Checks.mill("/\\\n*\\\n*\\\n/a/\\\n/b\\\nc\nd"), "1 1:4*a");
        line("no quotes within", Checks.mill("/*'*/a//\"\n'"), "1 1:1*a");
        line("end of one beside a slash", Checks.mill("/**//b"), "2 5:1*/ 1:1.b");
        line("quotes hold it off", Checks.mill("'/*'a\"//\"b"), "4 4:1*'/*' 1:1.a 3:1.\"//\" 1:1.b");
        line("star and two slashes", Checks.mill("a*//b"), "2 1:1*a 5:1.*");
        line("at the text's end without an LF", Checks.mill("a // b"), "1 1:1*a");
    }

    private static void quotes() {
        cut("\"a'b\"'c\"d'", "\"a'b\"|'c\"d'");
        cut("\"\"''", "\"\"|''");
        cut("'\\'' '\\\\' \"\\\"\" \"\\\\\"x", "'\\''|'\\\\'|\"\\\"\"|\"\\\\\"|x");
        cut("a'b'c\"d\"1'e'", "a|'b'|c|\"d\"|1|'e'");
        line("92 takes no LF along", Checks.mill("'a\\\\\n\n'"), "3 6:1*' 1:1.a 6:1.\\");
        line("comment looks like one", Checks.mill("' /* ' */ '"), "4 4:1*' /* ' 5:1** 5:1./ 6:1*'");
    }

    private static void openQuotes() {
        line("open at the LF", Checks.mill("\"a\nb\""), "2 6:1*\" 1:1.a");
        line("open at the text's end", Checks.mill("'"), "1 6:1*'");
        line("92 at the text's end", Checks.mill("'\\"), "2 6:1*' 6:1.\\");
        line("92 takes the last one along", Checks.mill("'\\'"), "3 6:1*' 6:1.\\ 6:1.'");
        line("comment behind an open one", Checks.mill("' // b\n'"), "1 6:1*'");
        line("LF of a comment ends the search", Checks.mill("' /*\n*/ ' a"), "3 6:1*' 6:2*' 1:2*a");
        line("the other kind goes on", Checks.mill("'\"a\"'"), "1 4:1*'\"a\"'");
        line("an open one before a closed one", Checks.mill("\"'a'"), "2 6:1*\" 4:1.'a'");
        line("escaped ones behind an open one", Checks.mill("'\\'\\'\"x\""),
            "6 6:1*' 6:1.\\ 6:1.' 6:1.\\ 6:1.' 3:1.\"x\"");
        line("searched anew behind a comment over lines", Checks.mill("'/*\n*/'a'"), "2 6:1*' 4:2*'a'");
    }

    private static void wideQuotes() {
        line("wide", Checks.mill("L'a'L\"b\""), "2 4:1*L'a' 3:1.L\"b\"");
        line("open wide", Checks.mill("L'a L\"b\n"), "6 1:1*L 6:1.' 1:1.a 1:1*L 6:1.\" 1:1.b");
        line("a longer name", Checks.mill("xL'a' l'b'"), "4 1:1*xL 4:1.'a' 1:1*l 4:1.'b'");
        line("a blank between", Checks.mill("L/**/'a'"), "2 1:1*L 4:1*'a'");
        line("behind a number", Checks.mill("1L'a'"), "2 2:1*1L 4:1.'a'");
        line("spliced", Checks.mill("L\\\n'a'"), "1 4:1*L'a'");
        line("open and spliced", Checks.mill("L\\\n'"), "2 1:1*L 6:2.'");
        line("L and what is no quote", Checks.mill("L La L1 L"), "4 1:1*L 1:1*La 1:1*L1 1:1*L");
    }

    private static void namesAndNumbers() {
        cut("a_Z09 _x $y A.b", "a_Z09|_x|$|y|A|.|b");
        cut("@[`{Az", "@|[|`|{|Az");
        cut("1 12ab 0x1F 1.2.3 .5 1..2 1_a", "1|12ab|0x1F|1.2.3|.5|1..2|1_a");
        cut("1e+5 1E-5 0x1p+3 1P-3 1e++ 1f+2 .e+5", "1e+5|1E-5|0x1p+3|1P-3|1e+|+|1f|+|2|.|e|+|5");
        cut(".5e+ ..5 ...5 a.5 1+2", ".5e+|.|.5|...|5|a|.5|1|+|2");
        cut("0/9:1", "0|/|9|:|1");
        line("kinds", Checks.mill("a 1 .1 . _"), "5 1:1*a 2:1*1 2:1*.1 5:1*. 1:1*_");
    }

    private static void signs() {
        String signs = "... <<= >>= -> ++ -- << >> <= >= == != && || *= /= %= += -= &= ^= |= ## "
            + "# [ ] ( ) { } . & * + - ~ ! / % < > ^ | ? : ; = ,";
        StringBuilder want = new StringBuilder();
        String[] each = signs.split(" ");
        want.append(each.length);
        for (String sign : each) {
            want.append(" 5:1*").append(sign);
        }
        line("all signs", Checks.mill(signs), want.toString());
        cut("+++ --- ->- <<<= >>>= === !== &&& ||| ### .... .. *== <=> ~= !~",
            "++|+|--|-|->|-|<<|<=|>>|>=|==|=|!=|=|&&|&||||||##|#|...|.|.|.|*=|=|<=|>|~|=|!|~");
        cut("/= /=/ a/=b %: <: ?? ::", "/=|/=|/|a|/=|b|%|:|<|:|?|?|:|:");
    }

    private static void otherBytes() {
        for (int value = 0; value < 256; value++) {
            char c = (char) value;
            String name = "ABCDEFGHIJKLMNOPQRSTUVWXYZabcdefghijklmnopqrstuvwxyz_";
            int kind = name.indexOf(c) >= 0 ? 1 : c >= '0' && c <= '9' ? 2
                : "#[](){}.&*+-~!/%<>^|?:;=,".indexOf(c) >= 0 ? 5
                : " \t\u000b\f\r\n".indexOf(c) >= 0 ? 0 : 6;
            line("byte " + value, Checks.mill("" + c), kind == 0 ? "0" : "1 " + kind + ":1*" + c);
        }
        line("one by one", Checks.mill("@@$\u0080"), "4 6:1*@ 6:1.@ 6:1.$ 6:1.\u0080");
    }

    private static void commentFault() {
        LineMill mill = Checks.mill("a\nb '/*' \\\n/* x\n y * /");
        line("before the fault", mill, "1 1:1*a");
        checks.due("the fault", mill.next(), -11);
        checks.due("the line of its beginning", mill.told(2), 3);
        checks.due("lines with tokens", mill.told(1), 1);
        checks.due("no line at hand", mill.token(0, 0), LineMill.BAD);
        Checks.feed(mill, "*/ c\n");
        checks.due("nothing until begin()", mill.next(), LineMill.NONE);
        mill.begin();
        line("begun", mill, "1 1:1*a");
        line("the comment has an end now", mill, "3 1:2*b 4:2*'/*' 1:4*c");
        checks.due("open with a star", Checks.mill("/*").next(), -11);
        checks.due("open with a star and a slash", Checks.mill("/*/").next(), -11);
        checks.due("open, ending in a star", Checks.mill("/**").next(), -11);
        checks.due("a slash alone", Checks.mill("/").next(), 1);
    }
}
