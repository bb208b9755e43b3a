/** The sentences of part 2 of the terms on texts, tests and faults, and of promises 12 to 14, that name a boundary case. */
public final class TextBoundaryTest {
    private static final int FAR = Integer.MAX_VALUE;
    private static final int DEEP = Integer.MIN_VALUE;
    private static final int NO = GoldenRows.NONE;
    private static final Check c = new Check("TextBoundaryTest");

    public static void main(String[] args) {
        emptyText();
        fullText();
        everyPlaceInALine();
        whatCanStandWhere();
        faultsWithinOthers();
        everyLetterOfAWord();
        wordLength();
        numberLength();
        otherBytes();
        blanks();
        asLongAsCanBe();
        letterBehindADigit();
        fields();
        lineNumbers();
        nearNumbers();
        tenLines();
        manyTests();
        depth();
        depthEndsWithItsOwn();
        sameNeedsBoth();
        nearByNAtMost();
        lacksOneOrBoth();
        sourceOfBoth();
        notAndOr();
        firstByPlace();
        leastAtOnePlace();
        endOfTheText();
        rulesStay();
        tapeIsEmptyThen();
        faultOfTheLatest();
        faultOfAnotherWhat();
        scoreSum();
        scoreOfNone();
        c.close();
    }

    private static void good(String sentence, int lines, String text) {
        GoldenRows x = new GoldenRows();
        String name = sentence + ": '" + text + "'";
        c.due(name, lines, Check.rules(x, text));
        c.due(name + " fault", 0, x.fault(0));
        c.due(name + " place", NO, x.fault(1));
        c.due(name + " lines", lines, x.about(5));
    }

    private static void bad(String sentence, int kind, int place, String text) {
        GoldenRows x = new GoldenRows();
        String name = sentence + ": '" + text + "'";
        c.due(name, NO, Check.rules(x, text));
        c.due(name + " fault", kind, x.fault(0));
        c.due(name + " place", place, x.fault(1));
        c.due(name + " lines", 0, x.about(5));
    }

    private static void emptyText() {
        GoldenRows x = Past.rows(2);
        c.due("terms 2: RULES (none at first)", 0, x.score(0, 1, 0, 0));
        good("terms 2: rules = {line}, none", 0, "");
        good("terms 2: rules = {line}, none", 0, " ");
        good("terms 2: rules = {line}, none", 0, "\n".repeat(500));
    }

    private static void fullText() {
        String s = "terms 2: a text of at most 500 bytes";
        good(s, 1, "link 1 when source" + " ".repeat(481) + ";");
        good(s, 1, " ".repeat(481) + "link 1 when source;");
        bad(s, 1, 499, "link 1 when source;" + " ".repeat(480) + "?");
        bad(s, 2, 499, "link 1 when source;" + " ".repeat(480) + ";");
        bad(s, 2, 500, " ".repeat(496) + "link");
        bad(s, 3, 499, " ".repeat(494) + "link 0");
        bad(s, 1, 0, "a".repeat(500));
        bad(s, 1, 5, "link " + "9".repeat(495));
    }

    /** A text that stops behind any of its tokens, or has a sign there that can't stand, has its fault just there. */
    private static void everyPlaceInALine() {
        String[] tokens = {"link", "1000", "when", "not", "(", "same", "5", "and", "near", "0", "999999", "or", "lacks", "3",
            ")", "and", "source", ";"};
        String s = "13: 2 one that can't stand there";
        StringBuilder text = new StringBuilder();
        for (String token : tokens) {
            bad(s + ", the end", 2, text.length(), text.length() == 0 ? ";" : text.toString());
            bad(s + ", a word", 2, text.length(), text + "whens");
            bad(s + ", no TOKEN", 1, text.length(), text + "=");
            text.append(token).append(' ');
        }
        good("terms 2: line = ( link | bar ) N when e ;", 1, text.toString());
    }

    private static void whatCanStandWhere() {
        String s = "13: 2 one that can't stand there";
        bad(s, 2, 0, "1 link when source;");
        bad(s, 2, 0, "not link 1 when source;");
        bad(s, 2, 5, "link link 1 when source;");
        bad(s, 2, 5, "link (1) when source;");
        bad(s, 2, 7, "link 1 (when source);");
        bad(s, 2, 7, "link 1 ;");
        bad(s, 2, 12, "link 1 when 1;");
        bad(s, 2, 12, "link 1 when link;");
        bad(s, 2, 12, "link 1 when and source;");
        bad(s, 2, 12, "link 1 when );");
        bad(s, 2, 17, "link 1 when same (0);");
        bad(s, 2, 19, "link 1 when same 0 0;");
        bad(s, 2, 18, "link 1 when near 0;");
        bad(s, 2, 21, "link 1 when near 0 0 0;");
        bad(s, 2, 19, "link 1 when source 0;");
        bad(s, 2, 19, "link 1 when source not source;");
        bad(s, 2, 19, "link 1 when source (source);");
        bad(s, 2, 19, "link 1 when source link 1 when source;");
        bad(s, 2, 26, "link 1 when (source or not);");
        bad(s, 2, 20, "link 1 when (source));");
        bad(s, 2, 21, "link 1 when ((source);");
        bad(s, 2, 19, "link 1 when source;;");
    }

    /** A fault in ( ) or behind not ends the reading, whatever could stand behind it. */
    private static void faultsWithinOthers() {
        String s = "13: the first by its place, within others";
        for (String within : new String[] {"(", "((", "not ", "not (", "(not ", "(source or ", "(source and ", "source or ", "source and "}) {
            String text = "link 1 when " + within;
            bad(s + ", 1", 1, text.length(), text + "?);");
            bad(s + ", 2", 2, text.length(), text + ";");
            bad(s + ", 2", 2, text.length(), text + ");");
            bad(s + ", 2", 2, text.length() + 4, text + "same;");
            bad(s + ", 3", 3, text.length() + 5, text + "same 6);");
            bad(s + ", 3", 3, text.length() + 5, text + "near 6 6);");
        }
        bad(s + ", a ) too few", 2, 20, "link 1 when ((source;");
        bad(s + ", a ) too few", 2, 33, "link 1 when((source or not(source;");
    }

    /** A word with a letter changed, a letter more or a letter less is another word. */
    private static void everyLetterOfAWord() {
        String[][] texts = {{"", "link", " 1 when source;"}, {"", "bar", " 1 when source;"}, {"bar 1 ", "when", " source;"},
            {"bar 1 when ", "not", " source;"}, {"bar 1 when ", "source", ";"}, {"bar 1 when ", "same", " 0;"},
            {"bar 1 when ", "near", " 0 1;"}, {"bar 1 when ", "lacks", " 0;"}, {"bar 1 when source ", "or", " source;"},
            {"bar 1 when source ", "and", " source;"}};
        for (String[] text : texts) {
            String ahead = text[0];
            String word = text[1];
            good("terms 2: a word", 1, ahead + word + text[2]);
            for (int at = 0; at < word.length(); at++) {
                String head = ahead + word.substring(0, at);
                String tail = word.substring(at + 1) + text[2];
                bad("13: 2 another word", 2, ahead.length(), head + "x" + tail);
                bad("13: 2 a longer word", 2, ahead.length(), head + word.charAt(at) + "x" + tail);
                bad("13: 2 a shorter word", 2, ahead.length(), head + tail);
            }
        }
    }

    private static void wordLength() {
        String s = "terms 2: words (a .. z; 8 bytes at most)";
        bad(s, 2, 0, "linklink 1 when source;");
        bad(s, 1, 0, "linklinkl 1 when source;");
        bad(s, 2, 0, "aaaaaaaa");
        bad(s, 1, 0, "zzzzzzzzz");
        bad(s, 1, 7, "link 1 whenwhenw source;");
        bad(s, 2, 12, "link 1 when sourcess;");
        bad(s, 1, 12, "link 1 when sourcesss;");
        bad(s, 2, 0, "linkk 1 when source;");
        bad(s, 2, 0, "lin 1 when source;");
        bad(s, 2, 0, "b 1 when source;");
    }

    private static void numberLength() {
        String s = "terms 2: numbers (1 to 6 digits)";
        good(s, 1, "link 1 when near 0 0;");
        good(s, 1, "link 000001 when near 000000 999999;");
        bad(s, 1, 5, "link 0000001 when source;");
        bad(s, 1, 17, "link 1 when near 0000000 1;");
        bad(s, 1, 19, "link 1 when near 0 0000000;");
        bad(s, 1, 19, "link 1 when near 0 4294967296;");
        bad(s, 2, 19, "link 1 when same 0 0000;");
    }

    /** Every byte but those of the document is no TOKEN; those have a fault of another kind, or none, in this place. */
    private static void otherBytes() {
        for (int b = 0; b < 256; b++) {
            boolean letter = b >= 'a' && b <= 'z';
            boolean digit = b >= '0' && b <= '9';
            boolean sign = b == ';' || b == '(' || b == ')';
            String s = "terms 2: 1 no TOKEN, byte " + b;
            String text = "link 1 when source;" + (char) b;
            if (b == 32 || b == 10) {
                good(s, 1, text);
            } else {
                bad(s, letter || digit || sign ? 2 : 1, 19, text);
            }
        }
    }

    private static void blanks() {
        String s = "terms 2: Blanks (32, 10) part them or not";
        good(s, 2, "link1 when(same0)or(near0 0)and not(source);bar2 when source;");
        good(s, 2, "\n \nlink\n1\nwhen \n ( same\n\n0 ) or\n( near  0\n0 ) and not\n(\nsource ) ;  \n bar 2\nwhen source\n;\n");
        bad(s, 2, 0, "linkbar 1 when source;");
        bad(s, 2, 6, "link1 2 when source;");
        bad(s, 2, 12, "link 1 when notsame 0;");
        bad(s, 2, 12, "link 1 when so urce;");
        bad(s, 2, 7, "link 1 0 when source;");
    }

    private static void asLongAsCanBe() {
        String s = "terms 2: words, digits as long as can be";
        bad(s, 3, 5, "link 1001 when source;");
        bad(s, 3, 17, "link 1 when same 10;");
        bad(s, 2, 12, "link 1 when sourceor source;");
        bad(s, 2, 12, "link 1 when sameor 1;");
        bad(s, 3, 17, "link 1 when same 55;");
        GoldenRows x = Past.person(100, 112);
        Check.rules(x, "link 1 when near 0 12;");
        c.due(s + ": 12 is not 1 and 2", 1, x.score(0, 1, 0, 0));
    }

    private static void letterBehindADigit() {
        String s = "terms 2: no letter directly behind a digit";
        bad(s, 1, 5, "link 1when source;");
        bad(s, 1, 5, "link 1a");
        bad(s, 1, 5, "link 1z");
        bad(s, 1, 5, "link 123456w");
        bad(s, 1, 17, "link 1 when same 0or source;");
        bad(s, 1, 19, "link 1 when near 0 1and source;");
        bad(s, 1, 4, "link1when source;");
        bad(s, 1, 0, "1a");
        good(s + ", but a sign or a blank", 1, "link 1\nwhen(same 0)and(near 0 5 or lacks 0);");
        good(s + ", but a digit behind a letter", 1, "link1 when lacks0 or near0 5;");
    }

    private static void fields() {
        for (String test : new String[] {"same ", "lacks ", "near "}) {
            int place = 12 + test.length();
            String behind = test.equals("near ") ? " 1;" : ";";
            for (int field = 0; field < 6; field++) {
                good("terms 2: F is a FIELD (0 .. 5)", 1, "link 1 when " + test + field + behind);
            }
            for (int field : new int[] {6, 7, 10, 50, 256, 65536, 999999}) {
                bad("13: 3 an F that can't be", 3, place, "link 1 when " + test + field + behind);
            }
        }
    }

    private static void lineNumbers() {
        for (String word : new String[] {"link ", "bar "}) {
            for (int n : new int[] {1, 2, 999, 1000}) {
                GoldenRows x = Past.rows(2);
                c.due("terms 2: a line's N 1 .. 1000", 1, Check.rules(x, word + n + " when source;"));
                c.due("14: N for link, less for bar", word.equals("bar ") ? -n : n, x.score(0, 1, 0, 0));
            }
            for (int n : new int[] {0, 1001, 1256, 65537, 999999}) {
                bad("13: 3 an N that can't be", 3, word.length(), word + n + " when source;");
            }
        }
    }

    private static void nearNumbers() {
        GoldenRows x = Past.person(0, 999999);
        String s = "terms 2: near's N is a number of 1 to 6 digits";
        c.due(s, 1, Check.rules(x, "link 1 when near 0 999999;"));
        c.due(s + ": the greatest", 1, x.score(0, 1, 0, 0));
        c.due(s, 1, Check.rules(x, "link 1 when near 0 999998;"));
        c.due(s + ": one less", 0, x.score(0, 1, 0, 0));
        c.due(s, 1, Check.rules(x, "link 1 when near 0 0;"));
        c.due(s + ": the least", 0, x.score(0, 1, 0, 0));
    }

    private static void tenLines() {
        String line = "bar 1 when source;";
        String s = "13: an 11th line: at its first word";
        good("terms 2: At most 10 lines", 9, line.repeat(9));
        good("terms 2: At most 10 lines", 10, line.repeat(10));
        good("terms 2: At most 10 lines, blanks are none", 10, line.repeat(10) + " \n ");
        bad(s, 2, 180, line.repeat(11));
        bad(s, 2, 180, line.repeat(12));
        bad(s, 2, 183, line.repeat(10) + "\n\n link 1 when source;");
        bad(s, 2, 180, line.repeat(10) + "bar 0 when same 6;");
        bad(s, 2, 180, line.repeat(10) + "b?");
        bad(s + ", or what is none", 1, 180, line.repeat(10) + "?");
        bad(s + ", or what is none", 2, 180, line.repeat(10) + "5");
        bad("13: a fault ahead of the 11th line", 3, 166, line.repeat(9) + "bar 0 when source;" + line);
    }

    /** 500 bytes hold some 54 tests at most (an or, a blank each side, and same0), so a 61st can't be told. */
    private static void manyTests() {
        String most = "bar1 when same0" + " or same0".repeat(53) + ";";
        c.due("terms 2: no more tests than this in 500 bytes", true, most.length() <= 500 && most.length() + 9 > 500);
        good("terms 2: At most 60 tests", 1, most);
        good("terms 2: At most 60 tests", 10, "bar1 when same0 or same0 or same0 or same0;".repeat(10));
    }

    private static void depth() {
        String s = "terms 2: an e or a one within 8 others";
        String at = "13: what is within 8 others: at it";
        String head = "bar 1 when ";
        good(s + " in ( )", 1, head + "(".repeat(7) + "source" + ")".repeat(7) + ";");
        good(s + " behind not", 1, head + "not ".repeat(7) + "source;");
        good(s + " of both", 1, head + "not(".repeat(3) + "not source" + ")".repeat(3) + ";");
        bad(at + " in ( )", 2, 19, head + "(".repeat(8) + "source" + ")".repeat(8) + ";");
        bad(at + " behind not", 2, 43, head + "not ".repeat(8) + "source;");
        bad(at + " of both", 2, 27, head + "not(".repeat(4) + "source" + ")".repeat(4) + ";");
        bad(at + " of both", 2, 31, head + "(not ".repeat(4) + "source" + ")".repeat(4) + ";");
        bad(at + ", a ( as well", 2, 19, head + "(".repeat(9) + "source" + ")".repeat(9) + ";");
        bad(at + ", a not as well", 2, 19, head + "(".repeat(8) + "not source" + ")".repeat(8) + ";");
        bad(at + ", blanks aside", 2, 29, head + "( ".repeat(8) + "  source");
        bad(at + ", the end as well", 2, 19, head + "(".repeat(8));
        bad(at + ", no TOKEN is less", 1, 19, head + "(".repeat(8) + "?");
        bad(at + ", a second one of an e", 2, 43, head + "(".repeat(7) + "source and source or not source");
    }

    private static void depthEndsWithItsOwn() {
        String s = "terms 2: within others, not behind them";
        String seven = "(((((((source)))))))";
        good(s, 1, "bar 1 when " + seven + " and " + seven + " or " + seven + ";");
        good(s, 3, "bar 1 when not not not not not not not source;".repeat(3));
        good(s, 1, "bar 1 when " + "(not source) or ".repeat(20) + "source;");
    }

    /** Rows 0 and 1 of a person have these values in field 0, or none; does a test hold of them, in both orders? */
    private static void holds(String sentence, boolean want, String e, Integer one, Integer other) {
        GoldenRows x = Past.rows(2);
        if (one != null) {
            x.set(0, 0, one, 0);
        }
        if (other != null) {
            x.set(1, 0, other, 0);
        }
        String name = sentence + ": " + e + " of " + one + ", " + other;
        c.due(name, 1, Check.rules(x, "link 1 when " + e + ";"));
        c.due(name, want ? 1 : 0, x.score(0, 1, 0, 0));
        c.due(name + ", the other way", want ? 1 : 0, x.score(1, 0, 0, 0));
    }

    private static void sameNeedsBoth() {
        String s = "14: same F: both have a VALUE there, and it is the same";
        holds(s, true, "same 0", 0, 0);
        holds(s, true, "same 0", 999999, 999999);
        holds(s, false, "same 0", 5, 6);
        holds(s, false, "same 0", 0, null);
        holds(s, false, "same 0", null, null);
    }

    private static void nearByNAtMost() {
        String s = "14: near F N: both have one, and these differ by N at most";
        holds(s, true, "near 0 3", 5, 5);
        holds(s, true, "near 0 3", 5, 8);
        holds(s, false, "near 0 3", 5, 9);
        holds(s, true, "near 0 3", 5, 2);
        holds(s, false, "near 0 3", 5, 1);
        holds(s, true, "near 0 0", 5, 5);
        holds(s, false, "near 0 0", 5, 6);
        holds(s, false, "near 0 999999", 0, null);
        holds(s, false, "near 0 999999", null, null);
        holds(s, true, "near 0 999999", 0, 999999);
    }

    private static void lacksOneOrBoth() {
        String s = "14: lacks F: one has none, or both";
        holds(s, false, "lacks 0", 0, 0);
        holds(s, true, "lacks 0", 0, null);
        holds(s, true, "lacks 0", null, 0);
        holds(s, true, "lacks 0", null, null);
    }

    private static void sourceOfBoth() {
        GoldenRows x = new GoldenRows();
        x.row(0);
        x.row(5);
        x.row(5);
        Check.rules(x, "link 1 when source;");
        c.due("14: source: both are of one SOURCE", 1, x.score(1, 2, 0, 0));
        c.due("14: source: not of two", 0, x.score(0, 1, 0, 0));
    }

    private static void notAndOr() {
        String s = "14: not, and, or as they say";
        String yes = "source";
        String no = "not source";
        holds(s, true, yes + " or " + no + " and " + no, 0, 0);
        holds(s, false, "(" + yes + " or " + no + ") and " + no, 0, 0);
        holds(s, true, no + " and " + no + " or " + yes, 0, 0);
        holds(s, false, no + " and (" + no + " or " + yes + ")", 0, 0);
        holds(s, true, no + " or " + yes, 0, 0);
        holds(s, false, "not " + yes + " and " + yes, 0, 0);
        holds(s, false, "not (" + yes + " or " + no + ")", 0, 0);
        holds(s, false, no + " or " + no, 0, 0);
        holds(s, true, "not not not not not not " + yes, 0, 0);
        holds(s, true, yes + " and " + yes + " and " + yes + " or " + no + " and " + yes, 0, 0);
        holds(s, false, yes + " and " + yes + " and " + no, 0, 0);
    }

    private static void firstByPlace() {
        String s = "13: FAULTS, the first by its place";
        bad(s + ", 3 ahead of 1", 3, 5, "link 0 ?");
        bad(s + ", 3 ahead of 2", 3, 5, "link 0 0 when source;");
        bad(s + ", 2 ahead of 1", 2, 5, "link when ?");
        bad(s + ", 2 ahead of 3", 2, 7, "link 1 same 6");
        bad(s + ", 1 ahead of 2", 1, 4, "link? link");
        bad(s + ", 1 ahead of 3", 1, 7, "link 1 ?hen same 6;");
        bad(s + ", in a second line", 3, 24, "link 1 when source;link 0 when source;");
    }

    private static void leastAtOnePlace() {
        String s = "13: at one place the least";
        bad(s + ", 1 and 2", 1, 0, "?");
        bad(s + ", 1 and 2", 1, 7, "link 1 1234567");
        bad(s + ", 1 and 2", 1, 12, "link 1 when abcdefghi");
        bad(s + ", 1 and 3", 1, 5, "link 0when source;");
        bad(s + ", 1 and 3", 1, 5, "link 0000000 when source;");
        bad(s + ", 2 and 3", 2, 7, "link 1 1001 when source;");
        bad(s + ", 2 and 3", 2, 0, "1001");
    }

    private static void endOfTheText() {
        String s = "13: the end: the text's length";
        bad(s, 2, 4, "link");
        bad(s, 2, 9, "link     ");
        bad(s, 2, 6, "link 1");
        bad(s, 2, 11, "link 1 when");
        bad(s, 2, 18, "link 1 when source");
        bad(s, 2, 500, "link 1 when source" + "\n".repeat(482));
        bad(s, 2, 17, "link 1 when same ");
        bad(s, 2, 18, "link 1 when near 0");
        GoldenRows x = new GoldenRows();
        Check.put(x, "link 1 when source;");
        x.end(18);
        x.rules();
        c.due(s + ", as end left it", 18, x.fault(1));
    }

    private static void rulesStay() {
        String s = "12: NONE: a FAULT (the RULES stay)";
        for (String text : new String[] {"?", "link", "link 0", "bar 5 when source; link 1 when same 6;", "link 9 when source"}) {
            GoldenRows x = Past.rows(2);
            c.due(s, 2, Check.rules(x, "link 7 when source;bar 4 when lacks 3;"));
            c.due(s, NO, Check.rules(x, text));
            c.due(s + ": lines", 2, x.about(5));
            c.due(s + ": score", 3, x.score(0, 1, 0, 0));
            c.due(s + ": persons", 1, x.persons(0, 0));
            c.due(s + ": until others come", 0, x.rules());
            c.due(s + ": no lines", 0, x.about(5));
            c.due(s + ": no score", 0, x.score(0, 1, 0, 0));
            c.due(s + ": parted", 2, x.persons(0, 0));
        }
    }

    private static void tapeIsEmptyThen() {
        String s = "12: The TAPE (empty then)";
        GoldenRows x = new GoldenRows();
        Check.rules(x, "link 1 when source;");
        c.due(s, 0, x.about(7));
        c.due(s + ": no byte", NO, x.end(1));
        Check.rules(x, "?");
        c.due(s + ", with a FAULT too", 0, x.about(7));
        c.due(s + ": room for others", 20, x.feed(0, 0, 0, 0, 0));
    }

    private static void faultOfTheLatest() {
        String s = "13: Of the latest rules()";
        GoldenRows x = new GoldenRows();
        Check.rules(x, "link 0");
        c.due(s + ": its FAULT", 3, x.fault(0));
        c.due(s + ": its place", 5, x.fault(1));
        Check.put(x, "??");
        x.end(1);
        c.due(s + ", not of the tape", 3, x.fault(0));
        x.rules();
        c.due(s + ": another", 1, x.fault(0));
        c.due(s + ": its place", 0, x.fault(1));
        x.rules();
        c.due(s + ": (0)", 0, x.fault(0));
        c.due(s + ": (NONE)", NO, x.fault(1));
    }

    private static void faultOfAnotherWhat() {
        GoldenRows x = new GoldenRows();
        for (int turn = 0; turn < 2; turn++) {
            for (int what : new int[] {-1, 2, 3, DEEP, FAR}) {
                c.due("13: NONE for another what, " + what, NO, x.fault(what));
            }
            Check.rules(x, "link ?");
        }
    }

    private static void scoreSum() {
        GoldenRows x = Past.rows(2);
        String s = "14: each line's N for link, less for bar, whose e holds";
        c.due(s, 10, Check.rules(x, "link 1000 when source;".repeat(10)));
        c.due(s + ": the greatest", 10000, x.score(0, 1, 0, 0));
        c.due(s, 10, Check.rules(x, "bar 1000 when source;".repeat(10)));
        c.due(s + ": the least", -10000, x.score(0, 1, 0, 0));
        c.due(s, 3, Check.rules(x, "link 5 when source;bar 5 when lacks 0;link 9 when same 0;"));
        c.due(s + ": none", 0, x.score(0, 1, 0, 0));
    }

    private static void scoreOfNone() {
        GoldenRows x = Past.rows(3);
        x.later(2);
        x.row(0);
        x.forget(2);
        Check.rules(x, "link 1 when source;");
        c.due("14: two that are there", 1, x.score(0, 1, 0, 0));
        for (int none : new int[] {-1, 4, 9, 10, DEEP, FAR}) {
            c.due("14: 0 if one is none, " + none, 0, x.score(0, none, 0, 2));
            c.due("14: 0 if one is none, " + none, 0, x.score(none, 0, 0, 2));
            c.due("14: 0 if one is none, " + none, 0, x.score(none, none, 0, 2));
        }
        c.due("14: 0 if one is FORGOTTEN", 0, x.score(0, 2, 0, 2));
        c.due("14: 0 if one is FORGOTTEN", 0, x.score(2, 1, 0, 0));
        c.due("14: 0 if one is not there", 0, x.score(0, 3, 2, 1));
        c.due("14: 0 if one is not there", 0, x.score(3, 0, 2, 1));
        c.due("14: there from its day on", 1, x.score(3, 0, 2, 2));
        c.due("14: two different ROWS", 0, x.score(1, 1, 0, 0));
        c.due("14: none is there before day 0", 0, x.score(0, 1, 0, -1));
        c.due("14: on whatever day", 1, x.score(0, 1, DEEP, FAR));
    }
}
