/** Each promise: ordinary inputs, the edges that the document names, wrong inputs. */
public final class PromiseTest {
    private static final int FAR = Integer.MAX_VALUE;
    private static final int DEEP = Integer.MIN_VALUE;
    private static final int NO = GoldenRows.NONE;
    private static final Check c = new Check("PromiseTest");

    public static void main(String[] args) {
        newObject();
        trust();
        fade();
        rights();
        row();
        set();
        value();
        forget();
        later();
        feedAndEnd();
        rulesAndLines();
        tokenFaults();
        standFaults();
        numberFaults();
        depthFaults();
        faultAnswers();
        score();
        scoreWords();
        hand();
        unhand();
        quarrel();
        persons();
        parting();
        goldenSums();
        goldenTies();
        from();
        torn();
        fix();
        unfix();
        changes();
        change();
        accept();
        refuse();
        about();
        forgottenEverywhere();
        asKnown();
        c.close();
    }

    private static void newObject() {
        GoldenRows x = new GoldenRows();
        for (int what = 0; what < 8; what++) {
            c.due("1: about " + what, 0, x.about(what));
        }
        c.due("1: fault 0", 0, x.fault(0));
        c.due("1: fault 1", NO, x.fault(1));
        c.due("1: persons", 0, x.persons(0, 0));
        c.due("1: worth", 0, x.worth(0, 0));
        c.due("1: person", NO, x.person(0, 0, 0));
        c.due("1: NONE", -1, GoldenRows.NONE);
        for (int source = 0; source < 6; source++) {
            c.due("1: changes", 0, x.changes(source));
        }
    }

    private static void trust() {
        GoldenRows x = new GoldenRows();
        x.row(0);
        x.row(1);
        x.set(0, 5, 10, 0);
        x.set(1, 5, 20, 0);
        x.hand(0, 1, true);
        c.due("2: trust is 1 at first", 10, x.golden(0, 5, 0, 0));
        c.due("2: trust 1 5 2", true, x.trust(1, 5, 2));
        c.due("2: the greater trust", 20, x.golden(0, 5, 0, 0));
        c.due("2: trust of another field", true, x.trust(0, 4, 9));
        c.due("2: is of that field", 20, x.golden(0, 5, 0, 0));
        c.due("2: trust 0 5 9", true, x.trust(0, 5, 9));
        c.due("2: 9 is above 2", 10, x.golden(0, 5, 0, 0));
        c.due("2: 0 can be", true, x.trust(0, 5, 0));
        c.due("2: 0 is below 2", 20, x.golden(0, 5, 0, 0));
        int[][] wrong = {{6, 0, 1}, {-1, 0, 1}, {0, 6, 1}, {0, -1, 1}, {1, 5, 10}, {1, 5, -1}, {FAR, FAR, FAR}, {DEEP, DEEP, DEEP}};
        for (int[] w : wrong) {
            c.due("2: wrong trust", false, x.trust(w[0], w[1], w[2]));
        }
        c.due("2: wrong ones do nothing", 20, x.golden(0, 5, 0, 0));
    }

    private static void fade() {
        GoldenRows x = new GoldenRows();
        x.row(0);
        x.row(1);
        x.set(0, 0, 10, 0);
        x.set(1, 0, 20, 5);
        x.hand(0, 1, true);
        x.trust(0, 0, 2);
        c.due("3: no fade at first", 10, x.golden(0, 0, 5, 0));
        c.due("3: fade", true, x.fade(0, 20));
        c.due("3: 200 - 20 * 5 is 100, and the later day is ahead", 20, x.golden(0, 0, 5, 0));
        c.due("3: fade", true, x.fade(0, 19));
        c.due("3: 200 - 19 * 5 is 105", 10, x.golden(0, 0, 5, 0));
        c.due("3: greatest", true, x.fade(0, 50));
        c.due("3: faded", 20, x.golden(0, 0, 5, 0));
        c.due("3: faded to 0 both, the later day", 20, x.golden(0, 0, 100, 0));
        c.due("3: far off", 20, x.golden(0, 0, FAR, 0));
        c.due("3: too great", false, x.fade(0, 51));
        c.due("3: below 0", false, x.fade(0, -1));
        c.due("3: no field", false, x.fade(6, 1));
        c.due("3: no field", false, x.fade(-1, 1));
        c.due("3: far", false, x.fade(FAR, FAR));
        c.due("3: wrong ones do nothing", 20, x.golden(0, 0, 5, 0));
        c.due("3: least", true, x.fade(0, 0));
        c.due("3: none again", 10, x.golden(0, 0, 5, 0));
    }

    private static void rights() {
        GoldenRows x = Past.rows(1);
        for (int field = 0; field < 6; field++) {
            x.fix(0, field, 100 + field);
        }
        c.due("4: none at first", 0, x.changes(0));
        c.due("4: all", true, x.rights(0, 63));
        c.due("4: six changes", 6, x.changes(0));
        c.due("4: fields 1 and 5", true, x.rights(0, 34));
        c.due("4: two changes", 2, x.changes(0));
        c.due("4: the first", 1, x.change(0, 0, 1));
        c.due("4: the second", 5, x.change(0, 1, 1));
        c.due("4: 64", false, x.rights(0, 64));
        c.due("4: -1", false, x.rights(0, -1));
        c.due("4: source 6", false, x.rights(6, 1));
        c.due("4: source -1", false, x.rights(-1, 1));
        c.due("4: far", false, x.rights(DEEP, FAR));
        c.due("4: wrong ones do nothing", 2, x.changes(0));
        c.due("4: of another source", true, x.rights(5, 63));
        c.due("4: not of this one", 2, x.changes(0));
        c.due("4: none", true, x.rights(0, 0));
        c.due("4: no changes", 0, x.changes(0));
    }

    private static void row() {
        GoldenRows x = new GoldenRows();
        c.due("5: source 6", NO, x.row(6));
        c.due("5: source -1", NO, x.row(-1));
        c.due("5: far", NO, x.row(FAR));
        for (int i = 0; i < 10; i++) {
            c.due("5: row", i, x.row(i % 6));
        }
        c.due("5: an eleventh", NO, x.row(0));
        c.due("5: ten", 10, x.about(1));
        x.forget(3);
        c.due("5: a number stays", NO, x.row(0));
        GoldenRows y = new GoldenRows();
        y.later(4);
        y.row(0);
        c.due("5: not there before", 0, y.persons(9, 3));
        c.due("5: there from its day on", 1, y.persons(9, 4));
        c.due("5: on whatever day", 1, y.persons(0, 4));
        y.row(0);
        c.due("5: one more at once", 2, y.persons(0, 4));
        c.due("5: no row 10", NO, x.person(10, 0, 0));
        c.due("5: no row 10", NO, x.value(10, 0, 0, 0));
        c.due("5: no row 10", NO, x.golden(10, 0, 0, 0));
        c.due("5: no row 10", 0, x.score(10, 0, 0, 0));
    }

    private static void set() {
        GoldenRows x = Past.rows(2);
        c.due("6: first", 1, x.set(0, 0, 0, 0));
        c.due("6: edges", 2, x.set(1, 5, 999999, 100000));
        int[][] wrong = {{2, 0, 1, 0}, {-1, 0, 1, 0}, {0, 6, 1, 0}, {0, -1, 1, 0}, {0, 0, -1, 0}, {0, 0, 1000000, 0},
            {0, 0, 1, -1}, {0, 0, 1, 100001}, {FAR, FAR, FAR, FAR}, {DEEP, DEEP, DEEP, DEEP}};
        for (int[] w : wrong) {
            c.due("6: wrong set", NO, x.set(w[0], w[1], w[2], w[3]));
        }
        c.due("6: wrong ones do nothing", 2, x.about(2));
        c.due("6: value 0", 0, x.value(0, 0, 0, 0));
        c.due("6: greatest", 999999, x.value(1, 5, 100000, 0));
        x.forget(1);
        c.due("6: forgotten", NO, x.set(1, 0, 1, 0));
        for (int i = 3; i <= 150; i++) {
            c.due("6: set", i, x.set(0, i % 6, i, 0));
        }
        c.due("6: the 151st", NO, x.set(0, 0, 7, 0));
        c.due("6: 150", 150, x.about(2));
        c.due("6: the 150th is there", 150, x.value(0, 0, 0, 0));
    }

    private static void value() {
        GoldenRows x = Past.rows(1);
        x.set(0, 0, 1, 10);
        x.set(0, 0, 2, 5);
        x.later(3);
        x.set(0, 0, 3, 10);
        x.set(0, 0, 4, 20);
        x.later(3);
        x.set(0, 0, 5, 7);
        c.due("7: before all", NO, x.value(0, 0, 4, 99));
        c.due("7: from its day on", 2, x.value(0, 0, 5, 99));
        c.due("7: told later, from a day between", 5, x.value(0, 0, 7, 6));
        c.due("7: not known yet", 2, x.value(0, 0, 9, 5));
        c.due("7: greatest day", 3, x.value(0, 0, 10, 3));
        c.due("7: as known before", 1, x.value(0, 0, 10, 2));
        c.due("7: of like days the one told last", 3, x.value(0, 0, 19, 6));
        c.due("7: the day itself", 4, x.value(0, 0, 20, 3));
        c.due("7: far", 4, x.value(0, 0, FAR, FAR));
        c.due("7: deep", NO, x.value(0, 0, DEEP, FAR));
        c.due("7: deep", NO, x.value(0, 0, FAR, DEEP));
        c.due("7: known on no day", NO, x.value(0, 0, 20, -1));
        c.due("7: another field", NO, x.value(0, 1, 20, 20));
        c.due("7: no field", NO, x.value(0, 6, 20, 20));
        c.due("7: no field", NO, x.value(0, -1, 20, 20));
        c.due("7: no row", NO, x.value(1, 0, 20, 20));
        c.due("7: no row", NO, x.value(-1, 0, 20, 20));
        c.due("7: no row", NO, x.value(FAR, FAR, FAR, FAR));
        c.due("7: of like days on one day", 6, x.set(0, 0, 8, 20));
        c.due("7: the last", 8, x.value(0, 0, 20, 6));
    }

    private static void forget() {
        GoldenRows x = Past.rows(3);
        x.set(1, 0, 5, 0);
        c.due("8: no row", false, x.forget(3));
        c.due("8: no row", false, x.forget(-1));
        c.due("8: far", false, x.forget(DEEP));
        c.due("8: forget", true, x.forget(1));
        c.due("8: again", false, x.forget(1));
        c.due("8: its value", NO, x.value(1, 0, 0, 0));
        c.due("8: two persons", 2, x.persons(0, 0));
        c.due("8: numbers stay", 1, x.person(2, 0, 0));
        c.due("8: none", NO, x.person(1, 0, 0));
        c.due("8: rows", 3, x.about(1));
        c.due("8: the next", 3, x.row(0));
    }

    private static void later() {
        GoldenRows x = new GoldenRows();
        c.due("9: none", 0, x.later(0));
        c.due("9: 1000", 1000, x.later(1000));
        c.due("9: 1001", NO, x.later(1001));
        c.due("9: -1", NO, x.later(-1));
        c.due("9: far", NO, x.later(FAR));
        c.due("9: deep", NO, x.later(DEEP));
        for (int i = 2; i <= 99; i++) {
            c.due("9: later", i * 1000, x.later(1000));
        }
        c.due("9: to 99001", 99001, x.later(1));
        c.due("9: above", NO, x.later(1000));
        c.due("9: the last", 100000, x.later(999));
        c.due("9: above", NO, x.later(1));
        c.due("9: none", 100000, x.later(0));
        c.due("9: the day", 100000, x.about(0));
    }

    private static void feedAndEnd() {
        GoldenRows x = new GoldenRows();
        c.due("11: end of none", 0, x.end(0));
        c.due("11: too far", NO, x.end(1));
        for (int i = 1; i <= 25; i++) {
            c.due("10: feed", 20 * i, x.feed(0x20202020, 0x20202020, 0x20202020, 0x20202020, 0x20202020));
        }
        c.due("10: above 500", NO, x.feed(0, 0, 0, 0, 0));
        c.due("10: nothing came", 500, x.about(7));
        c.due("11: not so many", NO, x.end(501));
        c.due("11: below 0", NO, x.end(-1));
        c.due("11: far", NO, x.end(DEEP));
        c.due("11: all", 500, x.end(500));
        c.due("11: 481", 481, x.end(481));
        c.due("10: 501", NO, x.feed(0, 0, 0, 0, 0));
        c.due("11: 480", 480, x.end(480));
        c.due("11: no more", NO, x.end(481));
        c.due("10: 500", 500, x.feed(-1, -1, -1, -1, -1));
        c.due("10: its bytes stand behind", NO, x.rules());
        c.due("10: no token", 1, x.fault(0));
        c.due("10: at 480", 480, x.fault(1));
        c.due("12: the tape is empty", 0, x.about(7));
        // "link" "1 wh" "en s" "ourc" "e;  "
        c.due("10: feed", 20, x.feed(0x6C696E6B, 0x31207768, 0x656E2073, 0x6F757263, 0x653B2020));
        c.due("10: the highest byte first", 1, x.rules());
        // "link 1" ends the text: what was behind it on the tape is no letter and no digit of it.
        c.due("10: feed", 20, x.feed(0x6C696E6B, 0x20316161, 0x61616161, 0, 0));
        x.end(6);
        c.due("11: no letter behind", NO, x.rules());
        c.due("11: a token", 2, x.fault(0));
        c.due("11: the end", 6, x.fault(1));
        x.feed(0x6C696E6B, 0x20313131, 0x31313131, 0x31313131, 0);
        x.end(6);
        x.rules();
        c.due("11: no digits behind", 2, x.fault(0));
        x.feed(0x6C696E6B, 0x20313131, 0x31313131, 0x31313131, 0);
        x.end(3);
        x.rules();
        c.due("11: a shorter word", 0, x.fault(1));
        c.due("11: can't stand", 2, x.fault(0));
        Check.rules(x, " ".repeat(495) + "bar 1");
        c.due("10: a digit is the last byte", 500, x.fault(1));
        Check.rules(x, " ".repeat(496) + "link");
        c.due("10: a letter is the last byte", 500, x.fault(1));
    }

    private static void rulesAndLines() {
        GoldenRows x = new GoldenRows();
        c.due("12: two lines", 2, Check.rules(x, "link 10 when same 0; bar 4 when not near 1 1;"));
        c.due("12: the tape is empty", 0, x.about(7));
        c.due("12: lines", 2, x.about(5));
        c.due("12: a fault", NO, Check.rules(x, "link 10 when same 6;"));
        c.due("12: the tape is empty", 0, x.about(7));
        c.due("12: the rules stay", 2, x.about(5));
        x.row(0);
        x.row(0);
        x.set(0, 0, 1, 0);
        x.set(1, 0, 1, 0);
        c.due("12: and are used", 6, x.score(0, 1, 0, 0));
        c.due("12: none again", 0, x.rules());
        c.due("12: no lines", 0, x.about(5));
        c.due("12: no score", 0, x.score(0, 1, 0, 0));
        c.due("12: blanks alone", 0, Check.rules(x, " \n \n"));
        c.due("12: blanks part or not", 2, Check.rules(x, "\nlink1 when(same0)and(not(source));bar000002 when lacks5;"));
        c.due("12: close", 1, Check.rules(x, "link1 when not(not(near0 1)or lacks1);"));
        c.due("12: the longest", 10, Check.rules(x, "bar 1 when source;".repeat(10) + " ".repeat(320)));
        c.due("12: 55 tests", 1, Check.rules(x, "bar1 when same0" + " or same0".repeat(53) + ";"));
        c.due("12: edges", 3, Check.rules(x, "link 1 when near 5 999999;link 1000 when same 0;bar 001000 when lacks 000005;"));
    }

    private static void faultIs(int kind, int place, String text) {
        GoldenRows x = new GoldenRows();
        String name = "13: fault of '" + text + "'";
        c.due(name, NO, Check.rules(x, text));
        c.due(name + " kind", kind, x.fault(0));
        c.due(name + " place", place, x.fault(1));
    }

    private static void tokenFaults() {
        faultIs(1, 0, "?");
        faultIs(1, 2, "  \t");
        faultIs(1, 0, "Link 1 when source;");
        faultIs(1, 0, "abcdefghi 1 when source;");
        faultIs(2, 0, "abcdefgh 1 when source;");
        faultIs(1, 5, "link 1234567 when source;");
        faultIs(1, 5, "link 1when source;");
        faultIs(1, 5, "link 0x");
        faultIs(1, 5, "link 1z");
        faultIs(2, 0, "z");
        faultIs(1, 0, "{");
        faultIs(1, 0, "`");
        faultIs(1, 0, "/");
        faultIs(1, 0, ":");
        faultIs(1, 6, "link 1_");
        faultIs(1, 12, "link 1 when ?");
        faultIs(1, 17, "link 1 when same 1a;");
        faultIs(1, 18, "link 1 when source,");
        faultIs(1, 0, "\u00ff");
        faultIs(1, 4, "link\r1");
        faultIs(1, 19, "link 1 when source;\0");
        faultIs(1, 7, "link 1 abcdefghijk when");
        faultIs(2, 5, "link abc abcdefghijk ?");
    }

    private static void standFaults() {
        faultIs(2, 0, "when");
        faultIs(2, 0, "5");
        faultIs(2, 0, ";");
        faultIs(2, 4, "link");
        faultIs(2, 6, "link  ");
        faultIs(2, 5, "link when source;");
        faultIs(2, 7, "link 1 source;");
        faultIs(2, 7, "link 1 1 when source;");
        faultIs(2, 12, "link 1 when ;");
        faultIs(2, 12, "link 1 when or source;");
        faultIs(2, 12, "link 1 when sources;");
        faultIs(2, 18, "link 1 when source");
        faultIs(2, 20, "link 1 when source  ");
        faultIs(2, 19, "link 1 when source source;");
        faultIs(2, 19, "link 1 when source 1;");
        faultIs(2, 18, "link 1 when source);");
        faultIs(2, 19, "link 1 when (source;");
        faultIs(2, 13, "link 1 when ();");
        faultIs(2, 16, "link 1 when same;");
        faultIs(2, 17, "link 1 when same a;");
        faultIs(2, 18, "link 1 when near 1;");
        faultIs(2, 19, "link 1 when same 1 1;");
        faultIs(2, 22, "link 1 when source or or source;");
        faultIs(1, 22, "link 1 when source or ?");
        faultIs(1, 23, "link 1 when source and ?");
        faultIs(2, 23, "link 1 when source and and source;");
        faultIs(2, 15, "link 1 when not;");
        faultIs(2, 20, "link 1 when source; ;");
        faultIs(2, 19, "link 1 when source;source");
        faultIs(2, 180, "bar 1 when source;".repeat(11));
        faultIs(2, 181, "bar 1 when source;".repeat(10) + " nonsense");
        faultIs(1, 180, "bar 1 when source;".repeat(10) + "?");
    }

    private static void numberFaults() {
        faultIs(3, 5, "link 0 when source;");
        faultIs(3, 5, "link 000000");
        faultIs(3, 5, "link 1001 when source;");
        faultIs(3, 4, "bar 999999 ?");
        faultIs(3, 17, "link 1 when same 6;");
        faultIs(3, 18, "link 1 when lacks 10;");
        faultIs(3, 17, "link 1 when near 9 9;");
        faultIs(1, 19, "link 1 when near 0 1000000;");
        faultIs(3, 5, "link 0 when same 6 ?");
        faultIs(1, 5, "link 0when source;");
    }

    private static void depthFaults() {
        GoldenRows x = new GoldenRows();
        c.due("12: within 7 others", 1, Check.rules(x, "bar 1 when " + "(".repeat(7) + "source" + ")".repeat(7) + ";"));
        c.due("12: behind 7 nots", 1, Check.rules(x, "bar 1 when " + "not ".repeat(7) + "source;"));
        c.due("12: both", 1, Check.rules(x, "bar 1 when not(not(not(not source)));"));
        c.due("12: side by side", 1, Check.rules(x, "bar 1 when " + "((((source)))) or ".repeat(20) + "source;"));
        faultIs(2, 19, "bar 1 when " + "(".repeat(8) + "source" + ")".repeat(8) + ";");
        faultIs(2, 43, "bar 1 when " + "not ".repeat(8) + "source;");
        faultIs(2, 27, "bar 1 when not(not(not(not(source))));");
        faultIs(2, 19, "bar 1 when " + "(".repeat(9));
        faultIs(2, 19, "bar 1 when " + "(".repeat(8) + ")");
        faultIs(2, 19, "bar 1 when " + "(".repeat(8));
        faultIs(1, 19, "bar 1 when " + "(".repeat(8) + "?");
        faultIs(2, 43, "bar 1 when " + "not ".repeat(9) + "source;");
        faultIs(2, 19, "bar 1 when " + "(".repeat(489));
    }

    private static void faultAnswers() {
        GoldenRows x = new GoldenRows();
        Check.rules(x, "?");
        c.due("13: what 2", NO, x.fault(2));
        c.due("13: what -1", NO, x.fault(-1));
        c.due("13: what far", NO, x.fault(FAR));
        c.due("13: kind", 1, x.fault(0));
        c.due("13: place", 0, x.fault(1));
        Check.put(x, "link");
        c.due("13: of the latest rules() alone", 1, x.fault(0));
        x.rules();
        c.due("13: kind", 2, x.fault(0));
        c.due("13: place", 4, x.fault(1));
        Check.rules(x, "link 1 when source;");
        c.due("13: none", 0, x.fault(0));
        c.due("13: no place", NO, x.fault(1));
    }

    private static void score() {
        GoldenRows x = Past.rows(2);
        x.later(2);
        x.row(0);
        Check.rules(x, "link 1000 when source; bar 7 when lacks 0;");
        c.due("14: both lines", 993, x.score(0, 1, 0, 0));
        c.due("14: the other way", 993, x.score(1, 0, 0, 0));
        c.due("14: the same row", 0, x.score(1, 1, 0, 0));
        c.due("14: not there", 0, x.score(0, 2, 2, 1));
        c.due("14: there", 993, x.score(0, 2, 0, 2));
        c.due("14: none", 0, x.score(0, 3, 2, 2));
        c.due("14: none", 0, x.score(-1, 0, 2, 2));
        c.due("14: far", 0, x.score(FAR, DEEP, FAR, FAR));
        c.due("14: known on no day", 0, x.score(0, 1, 0, -1));
        c.due("14: a day before all", 993, x.score(0, 1, DEEP, FAR));
        x.set(0, 0, 5, 3);
        x.set(1, 0, 5, 4);
        c.due("14: on a day", 993, x.score(0, 1, 3, 2));
        c.due("14: on a later day", 1000, x.score(0, 1, 4, 2));
        c.due("14: as known before", 993, x.score(0, 1, 4, 1));
        x.forget(1);
        c.due("14: forgotten", 0, x.score(0, 1, 4, 2));
    }

    /** The words of a line's e, on rows 0 (source 0: 5, 100), 1 (source 1: 5, none), 2 (source 0: 8, 100). */
    private static void scoreWords() {
        wordsAre("same 0", true, false, false);
        wordsAre("same 1", false, true, false);
        wordsAre("same 2", false, false, false);
        wordsAre("near 0 2", true, false, false);
        wordsAre("near 0 3", true, true, true);
        wordsAre("near 0 0", true, false, false);
        wordsAre("near 1 999999", false, true, false);
        wordsAre("lacks 0", false, false, false);
        wordsAre("lacks 1", true, false, true);
        wordsAre("lacks 2", true, true, true);
        wordsAre("source", false, true, false);
        wordsAre("not source", true, false, true);
        wordsAre("not not source", false, true, false);
        wordsAre("same 0 or source", true, true, false);
        wordsAre("same 0 and lacks 1", true, false, false);
        wordsAre("same 0 or source and same 2", true, false, false);
        wordsAre("(same 0 or source) and same 2", false, false, false);
        wordsAre("source and same 2 or same 0", true, false, false);
        wordsAre("not same 0 and lacks 1", false, false, true);
        wordsAre("not (same 0 and lacks 1)", false, true, true);
        wordsAre("not same 0 or lacks 1", true, true, true);
        wordsAre("lacks 1 and not (source or (same 0 and not same 2))", false, false, true);
        wordsAre("same 2 or same 2 or source or same 2", false, true, false);
        wordsAre("lacks 2 and lacks 2 and source and lacks 2", false, true, false);
        wordsAre("((same 2 or source) and (lacks 2 or same 2)) or same 2", false, true, false);
    }

    private static void wordsAre(String e, boolean with01, boolean with02, boolean with12) {
        GoldenRows x = new GoldenRows();
        x.row(0);
        x.row(1);
        x.row(0);
        x.set(0, 0, 5, 0);
        x.set(0, 1, 100, 0);
        x.set(1, 0, 5, 0);
        x.set(2, 0, 8, 0);
        x.set(2, 1, 100, 0);
        c.due("12: " + e, 2, Check.rules(x, "link 3 when " + e + ";bar 10 when not(" + e + ");"));
        c.due("14: " + e + " of 0, 1", with01 ? 3 : -10, x.score(0, 1, 0, 0));
        c.due("14: " + e + " of 0, 2", with02 ? 3 : -10, x.score(2, 0, 0, 0));
        c.due("14: " + e + " of 1, 2", with12 ? 3 : -10, x.score(1, 2, 0, 0));
    }

    private static void hand() {
        GoldenRows x = Past.rows(4);
        c.due("15: a row twice", NO, x.hand(1, 1, true));
        c.due("15: no row", NO, x.hand(0, 4, true));
        c.due("15: no row", NO, x.hand(-1, 0, false));
        c.due("15: far", NO, x.hand(FAR, DEEP, false));
        c.due("15: none told", 0, x.about(3));
        x.forget(3);
        c.due("15: forgotten", NO, x.hand(0, 3, true));
        c.due("15: forgotten", NO, x.hand(3, 0, true));
        c.due("15: first", 0, x.hand(2, 0, true));
        c.due("15: one person", 2, x.persons(0, 0));
        c.due("15: row 2 is with 0", 0, x.person(2, 0, 0));
        for (int i = 1; i < 20; i++) {
            c.due("15: hand", i, x.hand(0, 2, true));
        }
        c.due("15: a 21st", NO, x.hand(0, 2, false));
        c.due("15: twenty", 20, x.about(3));
        c.due("16: no hand 20", false, x.unhand(20));
        c.due("15: it does nothing", 2, x.persons(0, 0));
    }

    private static void unhand() {
        GoldenRows x = Past.rows(2);
        x.later(5);
        x.hand(0, 1, true);
        x.later(5);
        c.due("16: none such", false, x.unhand(1));
        c.due("16: none such", false, x.unhand(-1));
        c.due("16: far", false, x.unhand(FAR));
        c.due("16: unhand", true, x.unhand(0));
        c.due("16: again", false, x.unhand(0));
        c.due("16: before it was told", 2, x.persons(0, 4));
        c.due("16: told", 1, x.persons(0, 5));
        c.due("16: still held", 1, x.persons(0, 9));
        c.due("16: untold", 2, x.persons(0, 10));
        c.due("16: ever after", 2, x.persons(0, FAR));
        c.due("16: it stays one", 1, x.about(3));
        x.hand(0, 1, true);
        c.due("16: held", 1, x.persons(0, FAR));
        c.due("16: on the same day", true, x.unhand(1));
        c.due("16: holds on no day", 2, x.persons(0, 10));
        c.due("16: a later one does not mend the first", 1, x.persons(0, 9));
    }

    private static void quarrel() {
        GoldenRows x = Past.rows(4);
        x.set(0, 0, 1, 0);
        x.rights(0, 63);
        x.fix(0, 0, 2);
        x.hand(0, 1, true);
        x.hand(1, 2, true);
        c.due("17: no quarrel", 2, x.persons(0, 0));
        x.later(1);
        x.hand(2, 0, false);
        c.due("17: over three rows", -2, x.persons(0, 1));
        c.due("17: not yet", 2, x.persons(0, 0));
        c.due("18: quarrel", -2000000, x.worth(0, 1));
        c.due("18: not yet", 0, x.worth(0, 0));
        c.due("19: quarrel", NO, x.person(3, 0, 1));
        c.due("20: quarrel", NO, x.golden(0, 0, 0, 1));
        c.due("21: quarrel", NO, x.from(0, 0, 0, 1));
        c.due("22: quarrel", NO, x.torn(0, 0, 0, 1));
        c.due("25: quarrel", 0, x.changes(0));
        c.due("25: golden before", 2, x.golden(0, 0, 0, 0));
        x.forget(1);
        c.due("17: a forgotten row binds nothing", 3, x.persons(0, 1));
        c.due("17: nor then", 3, x.persons(0, 0));
        GoldenRows y = Past.rows(2);
        y.hand(0, 1, true);
        y.hand(1, 0, false);
        c.due("17: two of one pair", -2, y.persons(0, 0));
        y.unhand(0);
        c.due("17: one of one pair", 2, y.persons(0, 0));
    }

    private static void persons() {
        GoldenRows x = Past.rows(3);
        c.due("17: nothing known", 0, x.persons(0, -1));
        c.due("18: nothing known", 0, x.worth(0, -1));
        c.due("19: not there", NO, x.person(0, 0, -1));
        c.due("19: none", NO, x.person(3, 0, 0));
        c.due("19: none", NO, x.person(-1, 0, 0));
        c.due("19: far", NO, x.person(DEEP, FAR, FAR));
        c.due("17: parted", 3, x.persons(DEEP, FAR));
        Check.rules(x, "link 5 when same 0; bar 3 when same 1;");
        x.set(0, 0, 1, 1);
        x.set(2, 0, 1, 2);
        x.set(0, 1, 1, 3);
        x.set(2, 1, 1, 3);
        c.due("17: on day 1", 3, x.persons(1, 0));
        c.due("17: on day 2", 2, x.persons(2, 0));
        c.due("18: on day 2", 5, x.worth(2, 0));
        c.due("18: on day 3", 2, x.worth(3, 0));
        c.due("19: on day 2", 0, x.person(2, 2, 0));
        c.due("19: numbered by the least row", 1, x.person(1, 2, 0));
        x.hand(0, 1, true);
        x.hand(0, 2, false);
        c.due("17: by hand", 2, x.persons(2, 0));
        c.due("18: what hands cost", 0, x.worth(2, 0));
        c.due("19: by hand", 1, x.person(2, 2, 0));
    }

    /** Rows that quarrel: a chain of links, and one bar that costs more than the links give. */
    private static void parting() {
        GoldenRows x = Past.rows(4);
        Check.rules(x, "link 4 when same 0; link 4 when same 1; link 3 when same 2; bar 9 when same 3;");
        x.set(0, 0, 1, 0);
        x.set(1, 0, 1, 0);
        x.set(1, 1, 2, 0);
        x.set(2, 1, 2, 0);
        x.set(2, 2, 3, 0);
        x.set(3, 2, 3, 0);
        c.due("17: one person", 1, x.persons(0, 0));
        c.due("18: all links", 11, x.worth(0, 0));
        x.set(0, 3, 7, 0);
        x.set(2, 3, 7, 0);
        c.due("18: a bar is dearer than a link", 7, x.worth(0, 0));
        c.due("17: two persons", 2, x.persons(0, 0));
        c.due("19: of two like ones that with the greater number first", 1, x.person(1, 0, 0));
        c.due("19: with it", 1, x.person(2, 0, 0));
        c.due("19: with it", 1, x.person(3, 0, 0));
        x.hand(0, 1, true);
        c.due("18: as the hand says", 7, x.worth(0, 0));
        c.due("19: row 1", 0, x.person(1, 0, 0));
        c.due("19: row 2", 1, x.person(2, 0, 0));
        GoldenRows y = Past.rows(10);
        Check.rules(y, "link 1000 when source;");
        c.due("17: ten rows, one person", 1, y.persons(0, 0));
        c.due("18: 45 pairs", 45000, y.worth(0, 0));
        Check.rules(y, "link 1000 when source;".repeat(10));
        c.due("18: ten lines", 450000, y.worth(0, 0));
        Check.rules(y, "bar 1000 when source;".repeat(10));
        c.due("17: ten persons", 10, y.persons(0, 0));
        c.due("19: the last", 9, y.person(9, 0, 0));
        for (int i = 1; i < 10; i++) {
            y.hand(0, i, true);
        }
        c.due("18: the least", -450000, y.worth(0, 0));
        c.due("17: by hands", 1, y.persons(0, 0));
        y.hand(3, 4, false);
        c.due("17: quarrel", -2, y.persons(0, 0));
    }

    private static void goldenSums() {
        GoldenRows x = Past.person(5, 6, 6, 7);
        c.due("20: agreement", 6, x.golden(0, 0, 0, 0));
        c.due("20: of any row of the person", 6, x.golden(3, 0, 0, 0));
        x.trust(3, 0, 3);
        c.due("20: trust", 7, x.golden(1, 0, 0, 0));
        x.trust(1, 0, 2);
        x.trust(2, 0, 2);
        c.due("20: the sum", 6, x.golden(1, 0, 0, 0));
        c.due("20: no value", NO, x.golden(1, 1, 0, 0));
        c.due("20: no field", NO, x.golden(1, 6, 0, 0));
        c.due("20: no field", NO, x.golden(1, -1, 0, 0));
        c.due("20: no row", NO, x.golden(4, 0, 0, 0));
        c.due("20: no row", NO, x.golden(-1, 0, 0, 0));
        c.due("20: far", NO, x.golden(FAR, FAR, FAR, FAR));
        c.due("20: not known", NO, x.golden(0, 0, 0, -1));
        c.due("20: before all", NO, x.golden(0, 0, -1, 0));
        for (int source = 0; source < 6; source++) {
            x.trust(source, 0, 0);
        }
        c.due("20: without trust they speak, too", 5, x.golden(0, 0, 0, 0));
        x.row(5);
        c.due("20: a row alone", NO, x.golden(4, 0, 0, 0));
        x.set(4, 0, 99, 0);
        c.due("20: its own", 99, x.golden(4, 0, 0, 0));
    }

    private static void goldenTies() {
        GoldenRows x = Past.person(9, 4, 9, 4);
        c.due("20: of like ones the least", 4, x.golden(0, 0, 9, 0));
        x.set(2, 0, 9, 3);
        c.due("20: of like ones that of the latest day", 9, x.golden(0, 0, 9, 0));
        c.due("20: on a day before", 4, x.golden(0, 0, 2, 0));
        x.set(1, 0, 4, 4);
        c.due("20: of any row", 4, x.golden(0, 0, 9, 0));
        x.fade(0, 50);
        c.due("20: the younger weighs more", 4, x.golden(0, 0, 4, 0));
        c.due("20: 9: 100 of row 2, 4: 50 of row 3 and none of 1", 9, x.golden(0, 0, 3, 0));
        GoldenRows y = Past.person(3, 8);
        y.set(0, 0, 3, 100000);
        y.fade(0, 50);
        c.due("20: weights are 0 at least", 3, y.golden(0, 0, 100000, 0));
        c.due("20: like ones at 0", 3, y.golden(0, 0, 99999, 0));
        c.due("20: far off", 3, y.golden(0, 0, FAR, FAR));
    }

    private static void from() {
        GoldenRows x = Past.person(5, 6, 6, 7);
        c.due("21: the least number of like ones", 1, x.from(3, 0, 0, 0));
        x.trust(2, 0, 2);
        c.due("21: the greatest weight", 2, x.from(3, 0, 0, 0));
        x.trust(3, 0, 4);
        c.due("21: the golden one's", 3, x.from(0, 0, 0, 0));
        c.due("21: none", NO, x.from(0, 1, 0, 0));
        c.due("21: no field", NO, x.from(0, 6, 0, 0));
        c.due("21: no row", NO, x.from(9, 0, 0, 0));
        c.due("21: far", NO, x.from(DEEP, DEEP, FAR, FAR));
        x.fix(1, 1, 3);
        c.due("21: by a fix", -2, x.from(0, 1, 0, 0));
        for (int source = 0; source < 6; source++) {
            x.trust(source, 0, 0);
        }
        c.due("21: without weight", 0, x.from(1, 0, 0, 0));
    }

    private static void torn() {
        GoldenRows x = Past.person(5, 6, 6, 7);
        c.due("22: three", 3, x.torn(2, 0, 0, 0));
        c.due("22: none", 0, x.torn(2, 1, 0, 0));
        x.fix(0, 0, 1);
        c.due("22: fixes aside", 3, x.torn(2, 0, 0, 0));
        x.fix(0, 1, 1);
        c.due("22: fixes aside", 0, x.torn(2, 1, 0, 0));
        c.due("22: no person", NO, x.torn(4, 0, 0, 0));
        c.due("22: no person", NO, x.torn(-1, 0, 0, 0));
        c.due("22: not known", NO, x.torn(0, 0, 0, -1));
        c.due("22: before all", 0, x.torn(0, 0, -1, 0));
        x.forget(0);
        c.due("22: the others, parted now", 1, x.torn(1, 0, 0, 0));
        c.due("22: forgotten", NO, x.torn(0, 0, 0, 0));
    }

    private static void fix() {
        GoldenRows x = Past.person(5, 6);
        x.row(0);
        c.due("23: none such", NO, x.fix(3, 0, 1));
        c.due("23: none such", NO, x.fix(-1, 0, 1));
        c.due("23: no field", NO, x.fix(0, 6, 1));
        c.due("23: no field", NO, x.fix(0, -1, 1));
        c.due("23: no value", NO, x.fix(0, 0, -1));
        c.due("23: no value", NO, x.fix(0, 0, 1000000));
        c.due("23: far", NO, x.fix(FAR, FAR, FAR));
        x.later(2);
        c.due("23: fix", 0, x.fix(1, 0, 0));
        c.due("23: of the person", 0, x.golden(0, 0, 0, 2));
        c.due("23: not before", 5, x.golden(0, 0, 0, 1));
        c.due("23: not of another field", NO, x.golden(0, 1, 0, 2));
        c.due("23: not of another person", NO, x.golden(2, 0, 0, 2));
        c.due("23: a second", 1, x.fix(0, 0, 999999));
        c.due("23: the latest", 999999, x.golden(1, 0, 0, 2));
        c.due("23: of another person", 2, x.fix(2, 0, 77));
        c.due("23: not of this", 999999, x.golden(1, 0, 0, 2));
        c.due("23: its own", 77, x.golden(2, 0, 0, 2));
        x.forget(2);
        c.due("23: forgotten", NO, x.fix(2, 0, 1));
        for (int i = 3; i < 20; i++) {
            c.due("23: fix", i, x.fix(0, 1, i));
        }
        c.due("23: a 21st", NO, x.fix(0, 1, 99));
        c.due("23: the 20th", 19, x.golden(0, 1, 0, 2));
        c.due("23: twenty", 20, x.about(4));
        c.due("24: no fix 20", false, x.unfix(20));
        x.unhand(0);
        c.due("23: parted, the own one alone", 0, x.golden(1, 0, 0, 2));
        c.due("23: parted", 999999, x.golden(0, 0, 0, 2));
    }

    private static void unfix() {
        GoldenRows x = Past.person(5);
        x.fix(0, 0, 1);
        x.later(1);
        x.fix(0, 0, 2);
        x.later(1);
        c.due("24: none such", false, x.unfix(2));
        c.due("24: none such", false, x.unfix(-1));
        c.due("24: far", false, x.unfix(DEEP));
        c.due("24: unfix", true, x.unfix(1));
        c.due("24: again", false, x.unfix(1));
        c.due("24: the one before", 1, x.golden(0, 0, 0, 2));
        c.due("24: as known before", 2, x.golden(0, 0, 0, 1));
        c.due("24: as known at first", 1, x.golden(0, 0, 0, 0));
        c.due("24: unfix", true, x.unfix(0));
        c.due("24: none holds", 5, x.golden(0, 0, 0, FAR));
        c.due("24: from", 0, x.from(0, 0, 0, 2));
        c.due("24: they stay two", 2, x.about(4));
        x.fix(0, 0, 3);
        x.unfix(2);
        c.due("24: on the same day", 5, x.golden(0, 0, 0, 2));
    }

    private static void changes() {
        GoldenRows x = new GoldenRows();
        x.row(1);
        x.row(0);
        x.row(1);
        x.hand(0, 1, true);
        x.hand(1, 2, true);
        x.rights(1, 7);
        x.set(1, 0, 10, 0);
        x.set(1, 1, 11, 0);
        x.set(2, 1, 11, 0);
        x.set(1, 3, 13, 0);
        c.due("25: a row without a value, too", 3, x.changes(1));
        c.due("25: no rights", 0, x.changes(0));
        c.due("25: no rows", 0, x.changes(5));
        c.due("25: no source", NO, x.changes(6));
        c.due("25: no source", NO, x.changes(-1));
        c.due("25: far", NO, x.changes(FAR));
        x.set(1, 2, 12, 1);
        c.due("25: a value of tomorrow", 3, x.changes(1));
        x.later(1);
        c.due("25: today", 5, x.changes(1));
        x.forget(0);
        c.due("25: a forgotten row has none", 2, x.changes(1));
    }

    private static void change() {
        GoldenRows x = new GoldenRows();
        x.row(1);
        x.row(0);
        x.row(1);
        x.hand(0, 1, true);
        x.hand(1, 2, true);
        x.rights(1, 33);
        x.fix(1, 0, 10);
        x.fix(1, 5, 15);
        int[][] due = {{0, 0, 10}, {0, 5, 15}, {2, 0, 10}, {2, 5, 15}};
        for (int k = 0; k < 4; k++) {
            for (int what = 0; what < 3; what++) {
                c.due("26: change " + k + " " + what, due[k][what], x.change(1, k, what));
            }
        }
        c.due("26: no such", NO, x.change(1, 4, 0));
        c.due("26: no such", NO, x.change(1, -1, 0));
        c.due("26: no such", NO, x.change(1, FAR, 0));
        c.due("26: what 3", NO, x.change(1, 0, 3));
        c.due("26: what -1", NO, x.change(1, 0, -1));
        c.due("26: no source", NO, x.change(6, 0, 0));
        c.due("26: no source", NO, x.change(-1, 0, 0));
        c.due("26: of another source", NO, x.change(0, 0, 0));
    }

    private static void accept() {
        GoldenRows x = Past.person(5, 6);
        x.later(3);
        x.rights(1, 1);
        c.due("27: none such", false, x.accept(1, 1));
        c.due("27: none such", false, x.accept(1, -1));
        c.due("27: none such", false, x.accept(0, 0));
        c.due("27: no source", false, x.accept(6, 0));
        c.due("27: far", false, x.accept(DEEP, FAR));
        c.due("27: nothing came", 2, x.about(2));
        c.due("27: accept", true, x.accept(1, 0));
        c.due("27: a version", 3, x.about(2));
        c.due("27: from today on", 5, x.value(1, 0, 3, 3));
        c.due("27: not before", 6, x.value(1, 0, 2, 3));
        c.due("27: told today", 6, x.value(1, 0, 3, 2));
        c.due("27: no change more", 0, x.changes(1));
        x.set(0, 0, 8, 3);
        c.due("27: an echo is no witness", 8, x.golden(1, 0, 3, 3));
        c.due("27: alone", 1, x.torn(1, 0, 3, 3));
        x.trust(1, 0, 9);
        c.due("27: whatever its trust", 8, x.golden(1, 0, 3, 3));
        c.due("27: a change again", 8, x.change(1, 0, 2));
        x.set(1, 0, 6, 3);
        c.due("27: told by the source itself it speaks", 6, x.golden(0, 0, 3, 3));
        x.forget(0);
        x.set(1, 0, 6, 0);
        for (int i = x.about(2); i < 150; i++) {
            x.set(1, 1, i, 0);
        }
        x.fix(1, 0, 1);
        c.due("27: a change", 1, x.changes(1));
        c.due("27: 150 versions", false, x.accept(1, 0));
        c.due("27: it is still there", 1, x.changes(1));
        GoldenRows y = Past.person(5, 6);
        y.rights(1, 1);
        y.accept(1, 0);
        y.forget(0);
        c.due("27: an echo alone has no golden", NO, y.golden(1, 0, 0, 0));
        c.due("27: and no from", NO, y.from(1, 0, 0, 0));
        c.due("27: and none is spoken for", 0, y.torn(1, 0, 0, 0));
    }

    private static void refuse() {
        GoldenRows x = Past.person(5, 6);
        x.rights(1, 3);
        c.due("28: none such", false, x.refuse(1, 1));
        c.due("28: none such", false, x.refuse(1, -1));
        c.due("28: none such", false, x.refuse(0, 0));
        c.due("28: no source", false, x.refuse(6, 0));
        c.due("28: far", false, x.refuse(FAR, DEEP));
        c.due("28: none refused", 0, x.about(6));
        c.due("28: refuse", true, x.refuse(1, 0));
        c.due("28: one", 1, x.about(6));
        c.due("28: gone", 0, x.changes(1));
        x.set(0, 0, 4, 0);
        c.due("28: another value", 1, x.changes(1));
        x.fix(0, 1, 5);
        c.due("28: just that field", 2, x.changes(1));
        x.set(0, 0, 5, 0);
        c.due("28: that value again", 1, x.changes(1));
        c.due("28: kept", 1, x.change(1, 0, 1));
        GoldenRows y = Past.rows(10);
        y.rights(0, 63);
        for (int field = 0; field < 6; field++) {
            y.fix(0, field, field);
        }
        for (int i = 1; i < 10; i++) {
            y.hand(0, i, true);
        }
        c.due("28: sixty changes", 60, y.changes(0));
        for (int i = 0; i < 60; i++) {
            c.due("28: refuse", true, y.refuse(0, 59 - i));
        }
        c.due("28: none left", 0, y.changes(0));
        y.fix(0, 0, 100);
        c.due("28: ten more", 10, y.changes(0));
        c.due("28: a 61st", false, y.refuse(0, 0));
        c.due("28: sixty", 60, y.about(6));
        c.due("28: they stay", 10, y.changes(0));
    }

    private static void about() {
        GoldenRows x = Past.rows(3);
        x.later(7);
        x.set(0, 0, 1, 0);
        x.set(0, 1, 1, 0);
        x.set(1, 0, 2, 0);
        x.set(1, 0, 2, 0);
        Check.rules(x, "link 1 when source;".repeat(5));
        x.hand(0, 1, true);
        x.hand(0, 2, false);
        x.fix(0, 0, 3);
        x.fix(0, 0, 4);
        x.fix(0, 0, 5);
        x.rights(0, 1);
        x.refuse(0, 0);
        x.feed(0, 0, 0, 0, 0);
        x.end(9);
        x.forget(2);
        int[] due = {7, 3, 4, 2, 3, 5, 1, 9};
        for (int what = 0; what < 8; what++) {
            c.due("29: about " + what, due[what], x.about(what));
        }
        c.due("29: what 8", NO, x.about(8));
        c.due("29: what -1", NO, x.about(-1));
        c.due("29: far", NO, x.about(FAR));
        c.due("29: deep", NO, x.about(DEEP));
    }

    private static void forgottenEverywhere() {
        GoldenRows x = Past.person(5, 6, 6);
        x.hand(1, 2, true);
        x.fix(1, 0, 9);
        x.later(3);
        c.due("8: the fix", 9, x.golden(0, 0, 0, 0));
        x.forget(1);
        c.due("8: as known before, too", 5, x.golden(0, 0, 0, 0));
        c.due("8: the sum without it", 5, x.golden(2, 0, 3, 3));
        c.due("8: two values", 2, x.torn(2, 0, 0, 0));
        c.due("8: one person", 1, x.persons(0, 0));
        c.due("8: no person", NO, x.person(1, 0, 0));
        c.due("8: its hands can be untold", true, x.unhand(2));
        c.due("8: its fix can be untold", true, x.unfix(0));
        c.due("8: its versions are still counted", 3, x.about(2));
        x.forget(0);
        x.forget(2);
        c.due("8: nobody", 0, x.persons(0, 0));
        c.due("8: no worth", 0, x.worth(0, 0));
    }

    private static void asKnown() {
        GoldenRows x = Past.rows(2);
        Check.rules(x, "link 2 when same 0;");
        x.set(0, 0, 1, 5);
        x.set(1, 0, 1, 5);
        c.due("17: before", 2, x.persons(4, 0));
        c.due("17: then", 1, x.persons(5, 0));
        x.later(2);
        x.set(1, 0, 2, 6);
        c.due("17: day 6 as known on 2", 2, x.persons(6, 2));
        c.due("17: day 6 as known on 1", 1, x.persons(6, 1));
        c.due("17: day 5 as known on 2", 1, x.persons(5, 2));
        x.hand(0, 1, true);
        c.due("17: hands hold on every day", 1, x.persons(0, 2));
        c.due("17: not as known before", 2, x.persons(0, 1));
        c.due("20: the later day's", 2, x.golden(0, 0, 6, 2));
        c.due("20: as known before", 1, x.golden(0, 0, 6, 1));
        Check.rules(x, "bar 2 when source;");
        c.due("18: rules are the latest, as known on any day", -2, x.worth(5, 2));
        c.due("18: rules are the latest", 0, x.worth(5, 1));
    }
}
