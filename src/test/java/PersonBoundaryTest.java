/** The sentences of promises 15 to 29, and of parts 2 to 4 of the terms on persons, that name a boundary case. */
public final class PersonBoundaryTest {
    private static final int FAR = Integer.MAX_VALUE;
    private static final int DEEP = Integer.MIN_VALUE;
    private static final int NO = GoldenRows.NONE;
    private static final int[] ODD = {DEEP, -1, 8, 9, 10, 20, 60, FAR};
    private static final Check c = new Check("PersonBoundaryTest");
    private static final Twins lively = new Twins(c, Past::lively);

    public static void main(String[] args) {
        handNumbers();
        handRefused();
        handHolds();
        handOfOnePair();
        unhandRefused();
        partingOfNone();
        partingOfOne();
        partingOfTen();
        firstOfLikePartings();
        worthNothingStaysParted();
        handsAgainstWorth();
        worthEdges();
        quarrelOverAChain();
        quarrelAnswers();
        personNumbers();
        personOfNone();
        goldenByWeight();
        weightZeroAtLeast();
        goldenOfLikeSums();
        goldenOfNone();
        fromWhom();
        tornCounts();
        tornOfNone();
        echoIsNoWitness();
        fixNumbers();
        fixRefused();
        fixHolds();
        latestFix();
        unfixRefused();
        changesNow();
        changeUnlessLike();
        changeOrder();
        changesOfNone();
        changeOfNone();
        acceptToday();
        acceptRefused();
        refuseJustThat();
        refuseRefused();
        aboutEdges();
        fullHouse();
        c.close();
    }

    private static void handNumbers() {
        GoldenRows x = Past.rows(10);
        for (int i = 0; i < 20; i++) {
            c.due("15: HANDS, 20 at most: its number", i, x.hand(i % 10, 9 - i % 10, true));
            c.due("15: how many", i + 1, x.about(3));
        }
        c.due("15: the 20th is one as any", true, x.unhand(19));
        GoldenRows y = Past.rows(10);
        c.due("15: the last row", 0, y.hand(9, 0, true));
        c.due("15: binds", 0, y.person(9, 0, 0));
        c.due("15: and the others do not come", 9, y.persons(0, 0));
    }

    private static void handRefused() {
        lively.refuse("15: two different ROWS: NONE, doing nothing, if it can't be", NO,
            x -> x.hand(0, 0, true), x -> x.hand(6, 6, false));
        lively.refuse("15: NONE, doing nothing, if it can't be", NO,
            x -> x.hand(0, 8, true), x -> x.hand(8, 0, false), x -> x.hand(0, 10, true), x -> x.hand(-1, 0, false),
            x -> x.hand(0, -1, true), x -> x.hand(FAR, 0, true), x -> x.hand(0, DEEP, false), x -> x.hand(8, 9, true));
        lively.refuse("15: NONE, doing nothing, of a FORGOTTEN ROW", NO, x -> x.hand(6, 7, true), x -> x.hand(7, 6, false));
        new Twins(c, Past::fullOfHands).refuse("15: NONE, doing nothing, if there are 20", NO,
            x -> x.hand(0, 2, true), x -> x.hand(0, 1, false), x -> x.hand(0, 0, true));
    }

    private static void handHolds() {
        String s = "15: They hold as known on k if TOLD on k or before and not UNTOLD on k or before";
        for (boolean must : new boolean[] {true, false}) {
            GoldenRows x = Past.rows(2);
            Check.rules(x, must ? "bar 1 when source;" : "link 1 when source;");
            int free = must ? 2 : 1;
            x.later(5);
            x.hand(1, 0, must);
            x.later(4);
            c.due("16: UNTOLD", true, x.unhand(0));
            int[][] due = {{0, free}, {4, free}, {5, 3 - free}, {8, 3 - free}, {9, free}, {FAR, free}};
            for (int[] known : due) {
                c.due(s + ", " + must + " " + known[0], known[1], x.persons(0, known[0]));
                c.due(s + ", on whatever day", known[1], x.persons(FAR, known[0]));
            }
            x.hand(0, 1, must);
            c.due(s + ", told today", 3 - free, x.persons(0, 9));
            c.due("16: on a later one (or the same)", true, x.unhand(1));
            c.due("16: (or the same): it holds on no day", free, x.persons(0, 9));
        }
    }

    private static void handOfOnePair() {
        String s = "15: (of two of one pair, too)";
        GoldenRows x = Past.rows(2);
        x.hand(0, 1, true);
        x.hand(1, 0, true);
        x.later(1);
        x.unhand(0);
        c.due(s + ": the other still holds", 1, x.persons(0, 1));
        x.hand(0, 1, false);
        c.due(s + ": they quarrel", -2, x.persons(0, 1));
        c.due(s + ": not as known before", 1, x.persons(0, 0));
        x.later(1);
        x.unhand(1);
        c.due(s + ": the last one holds", 2, x.persons(0, 2));
        c.due(s + ": as known before they quarrel", -2, x.persons(0, 1));
    }

    private static void unhandRefused() {
        lively.refuse("16: false if it is so already", 0, x -> Twins.bit(x.unhand(5)));
        lively.refuse("16: false if there is none such", 0, x -> Twins.bit(x.unhand(6)), x -> Twins.bit(x.unhand(-1)),
            x -> Twins.bit(x.unhand(20)), x -> Twins.bit(x.unhand(DEEP)), x -> Twins.bit(x.unhand(FAR)));
        new Twins(c, Past::fullOfHands).refuse("16: of 20", 0, x -> Twins.bit(x.unhand(19)), x -> Twins.bit(x.unhand(20)));
        GoldenRows x = Past.rows(2);
        x.hand(0, 1, true);
        x.unhand(0);
        x.later(1);
        c.due("16: false on a later day as well", false, x.unhand(0));
        c.due("16: and the first telling stays", 2, x.persons(0, 0));
    }

    private static void partingOfNone() {
        GoldenRows x = Past.rows(1);
        Check.rules(x, "link 1 when source;");
        c.due("17: each ROW that is there, none", 0, x.persons(0, -1));
        c.due("18: WORTH of none", 0, x.worth(0, -1));
        x.forget(0);
        c.due("17: all FORGOTTEN", 0, x.persons(0, 0));
        c.due("18: WORTH of all FORGOTTEN", 0, x.worth(0, 0));
    }

    private static void partingOfOne() {
        GoldenRows x = Past.rows(1);
        Check.rules(x, "link 1 when source;");
        c.due("17: one ROW", 1, x.persons(0, 0));
        c.due("18: one ROW has no two", 0, x.worth(0, 0));
        c.due("19: one ROW", 0, x.person(0, 0, 0));
    }

    private static void partingOfTen() {
        GoldenRows x = new GoldenRows();
        for (int i = 0; i < 10; i++) {
            x.row(i % 5);
        }
        Check.rules(x, "link 3 when source; bar 1 when not source;");
        c.due("17: ten ROWS, five PERSONS", 5, x.persons(0, 0));
        c.due("18: five pairs", 15, x.worth(0, 0));
        for (int i = 0; i < 10; i++) {
            c.due("19: row " + i, i % 5, x.person(i, 0, 0));
        }
        for (int i = 1; i < 5; i++) {
            x.hand(0, i, true);
        }
        c.due("17: a link is worth less than four bars", 6, x.persons(0, 0));
        c.due("18: the bars of five ROWS that MUST be one PERSON's", -10, x.worth(0, 0));
        Check.rules(x, "");
        c.due("17: ten ROWS, no RULES", 6, x.persons(0, 0));
        c.due("19: the last of ten", 5, x.person(9, 0, 0));
    }

    /** A chain 0 - 1 - 2 of like links whose ends bar each other. */
    private static void firstOfLikePartings() {
        String s = "17: of like ones that comes ahead which has the greater number at the first ROW at which they differ";
        GoldenRows x = Past.rows(3);
        Check.rules(x, "link 5 when same 0;link 5 when same 1;bar 100 when same 2;");
        x.set(0, 0, 1, 0);
        x.set(1, 0, 1, 0);
        x.set(1, 1, 2, 0);
        x.set(2, 1, 2, 0);
        x.set(0, 2, 3, 0);
        x.set(2, 2, 3, 0);
        c.due(s + ": worth", 5, x.worth(0, 0));
        c.due(s + ": row 0", 0, x.person(0, 0, 0));
        c.due(s + ": row 1 has 1, not 0", 1, x.person(1, 0, 0));
        c.due(s + ": row 2", 1, x.person(2, 0, 0));
        GoldenRows y = Past.rows(4);
        Check.rules(y, "link 5 when same 0;link 5 when same 1;bar 100 when same 2;");
        int[][] values = {{1, 0, 1}, {2, 0, 1}, {3, 0, 1}, {1, 1, 2}, {2, 1, 2}, {3, 2, 7}, {1, 2, 7}};
        for (int[] v : values) {
            y.set(v[0], v[1], v[2], 0);
        }
        c.due(s + ": four, worth", 10, y.worth(0, 0));
        c.due(s + ": four, row 1", 1, y.person(1, 0, 0));
        c.due(s + ": four, row 2 with 1 (10), 3 alone", 1, y.person(2, 0, 0));
        c.due(s + ": four, row 3", 2, y.person(3, 0, 0));
    }

    private static void worthNothingStaysParted() {
        String s = "17: (so what is worth nothing stays parted)";
        GoldenRows x = Past.rows(3);
        c.due(s + ": no RULES", 3, x.persons(0, 0));
        Check.rules(x, "link 5 when source;bar 5 when lacks 0;");
        c.due(s + ": link and bar alike", 3, x.persons(0, 0));
        Check.rules(x, "link 5 when source;bar 4 when lacks 0;");
        c.due(s + ": worth 1", 1, x.persons(0, 0));
        Check.rules(x, "link 4 when source;bar 5 when lacks 0;");
        c.due(s + ": worth -1", 3, x.persons(0, 0));
        Check.rules(x, "");
        x.hand(0, 2, true);
        c.due(s + ", as HANDS say", 2, x.persons(0, 0));
        c.due(s + ": row 1 stays alone", 1, x.person(1, 0, 0));
    }

    private static void handsAgainstWorth() {
        String s = "17: puts each ROW that is there into one PERSON, as HANDS say";
        GoldenRows x = Past.rows(3);
        Check.rules(x, "bar 1000 when source;");
        x.hand(0, 1, true);
        x.hand(1, 2, true);
        c.due(s + ": through a second", 1, x.persons(0, 0));
        c.due("18: WORTH of all two ROWS of one PERSON", -3000, x.worth(0, 0));
        GoldenRows y = Past.rows(3);
        Check.rules(y, "link 1000 when source;");
        y.hand(0, 1, false);
        c.due(s + ": parted", 2, y.persons(0, 0));
        c.due(s + ": and the third with the later", 1, y.person(2, 0, 0));
        c.due("18: one pair", 1000, y.worth(0, 0));
        y.hand(2, 1, false);
        c.due(s + ": and the third with the first", 0, y.person(2, 0, 0));
        y.hand(2, 0, false);
        c.due(s + ": three", 3, y.persons(0, 0));
    }

    private static void worthEdges() {
        GoldenRows x = Past.rows(10);
        Check.rules(x, "link 1000 when source;".repeat(10));
        c.due("18: the greatest WORTH", 450000, x.worth(0, 0));
        Check.rules(x, "bar 1000 when source;".repeat(10));
        c.due("18: parted, none", 0, x.worth(0, 0));
        for (int i = 1; i < 10; i++) {
            x.hand(i - 1, i, true);
        }
        c.due("18: the least WORTH", -450000, x.worth(0, 0));
        c.due("17: one PERSON", 1, x.persons(0, 0));
        c.due("19: the last", 0, x.person(9, 0, 0));
    }

    private static void quarrelOverAChain() {
        String s = "17: If HANDS can't all be, they QUARREL";
        GoldenRows x = Past.rows(10);
        for (int i = 1; i < 10; i++) {
            x.hand(i - 1, i, true);
        }
        c.due(s + ": they can", 1, x.persons(0, 0));
        x.hand(9, 0, false);
        c.due(s + ": from end to end", -2, x.persons(0, 0));
        x.unhand(4);
        c.due(s + ": a gap mends it", 2, x.persons(0, 0));
        x.hand(5, 9, false);
        c.due(s + ": in the second half", -2, x.persons(0, 0));
        x.unhand(10);
        x.hand(3, 8, true);
        c.due(s + ": a bridge", -2, x.persons(0, 0));
        x.forget(8);
        c.due(s + ": of FORGOTTEN ROWS nothing is bound", 3, x.persons(0, 0));
    }

    private static void quarrelAnswers() {
        GoldenRows x = Past.person(5, 6);
        x.row(2);
        x.set(2, 0, 7, 0);
        x.rights(0, 63);
        x.fix(0, 0, 9);
        Check.rules(x, "link 3 when not source;");
        x.hand(0, 1, false);
        c.due("17: -2 if HANDS QUARREL", -2, x.persons(0, 0));
        c.due("18: -2000000 if HANDS QUARREL", -2000000, x.worth(0, 0));
        for (int row = 0; row < 4; row++) {
            c.due("19: NONE if HANDS QUARREL", NO, x.person(row, 0, 0));
            c.due("20: there is none if HANDS QUARREL", NO, x.golden(row, 0, 0, 0));
            c.due("21: NONE without, if HANDS QUARREL", NO, x.from(row, 0, 0, 0));
            c.due("22: NONE, as it has no PERSON, if HANDS QUARREL", NO, x.torn(row, 0, 0, 0));
        }
        c.due("25: no PERSON, no CHANGES", 0, x.changes(0));
        c.due("26: nor one of them", NO, x.change(0, 0, 0));
        c.due("27: nor to be ACCEPTED", false, x.accept(0, 0));
        c.due("28: nor to be REFUSED", false, x.refuse(0, 0));
        c.due("14: SCORE is as ever", 3, x.score(0, 1, 0, 0));
        c.due("7: VALUE is as ever", 6, x.value(1, 0, 0, 0));
        c.due("17: as known before", 0, x.persons(0, -1));
        x.unhand(1);
        c.due("17: none QUARREL", 1, x.persons(0, 0));
        c.due("25: a CHANGE", 1, x.changes(0));
    }

    private static void personNumbers() {
        String s = "19: PERSONS are numbered by their least ROW";
        GoldenRows x = Past.rows(6);
        x.hand(5, 1, true);
        x.hand(4, 2, true);
        int[] due = {0, 1, 2, 3, 2, 1};
        for (int row = 0; row < 6; row++) {
            c.due(s + ": row " + row, due[row], x.person(row, 0, 0));
        }
        x.forget(0);
        x.forget(1);
        int[] then = {NO, NO, 0, 1, 0, 2};
        for (int row = 0; row < 6; row++) {
            c.due(s + ", of those that are there: row " + row, then[row], x.person(row, 0, 0));
        }
    }

    private static void personOfNone() {
        GoldenRows x = Past.lively();
        for (int row : ODD) {
            c.due("19: NONE if it is none, " + row, NO, x.person(row, 7, 7));
        }
        c.due("19: NONE if it is FORGOTTEN", NO, x.person(7, 7, 7));
        c.due("19: as known before it was FORGOTTEN, too", NO, x.person(7, 0, 0));
        c.due("19: NONE if it is not there", NO, x.person(0, 7, -1));
    }

    private static void goldenByWeight() {
        String s = "20: a WEIGHT of 100 * TRUST - FADE * ( d less its day ); the VALUE with the greatest sum";
        GoldenRows x = Past.person(9, 8, 8, 8);
        x.trust(0, 0, 4);
        c.due(s + ": 400 and 300", 9, x.golden(0, 0, 0, 0));
        x.trust(1, 0, 2);
        c.due(s + ": 400 and 400, the least", 8, x.golden(0, 0, 0, 0));
        x.trust(1, 0, 3);
        c.due(s + ": 400 and 500", 8, x.golden(0, 0, 0, 0));
        GoldenRows y = Past.person(9, 8);
        y.set(0, 0, 9, 10);
        y.trust(1, 0, 2);
        y.fade(0, 10);
        c.due(s + ": 100 and 200 - 10 * 10, the latest day", 9, y.golden(0, 0, 10, 0));
        y.fade(0, 9);
        c.due(s + ": 100 and 200 - 9 * 10", 8, y.golden(0, 0, 10, 0));
        c.due(s + ": on day 9 both are from day 0", 8, y.golden(0, 0, 9, 0));
    }

    private static void weightZeroAtLeast() {
        String s = "20: 0 at least";
        GoldenRows x = Past.person(5, 5, 6);
        x.set(0, 0, 5, 50);
        x.set(2, 0, 6, 50);
        x.fade(0, 50);
        c.due(s + ": 100 + 0 and 100, the least", 5, x.golden(0, 0, 50, 0));
        c.due(s + ": all are 0, the least of the latest day", 5, x.golden(0, 0, 100000, 0));
        c.due(s + ": all are 0, as far as days go", 5, x.golden(0, 0, FAR, FAR));
        GoldenRows y = Past.person(7, 3);
        y.trust(0, 0, 0);
        c.due(s + ": 0 and 100", 3, y.golden(0, 0, 0, 0));
        y.forget(1);
        c.due(s + ": what weighs 0 speaks, too", 7, y.golden(0, 0, 0, 0));
        c.due("21: with a WEIGHT of 0, too", 0, y.from(0, 0, 0, 0));
        c.due("22: with a WEIGHT of 0, too", 1, y.torn(0, 0, 0, 0));
    }

    private static void goldenOfLikeSums() {
        GoldenRows x = Past.person(9, 8, 9, 8);
        c.due("20: of like ones the least", 8, x.golden(0, 0, 20, 0));
        x.set(2, 0, 9, 10);
        c.due("20: of like ones that of the latest day", 9, x.golden(0, 0, 20, 0));
        x.set(1, 0, 8, 11);
        c.due("20: (of any ROW that speaks for it)", 8, x.golden(0, 0, 20, 0));
        c.due("20: not of a day after d", 9, x.golden(0, 0, 10, 0));
        x.set(0, 0, 9, 11);
        c.due("20: of like days the least", 8, x.golden(0, 0, 20, 0));
        GoldenRows y = Past.person(0, 999999);
        c.due("20: the least, 0", 0, y.golden(1, 0, 0, 0));
        y.trust(1, 0, 9);
        c.due("20: the greatest value", 999999, y.golden(0, 0, 0, 0));
    }

    private static void goldenOfNone() {
        GoldenRows x = Past.lively();
        for (int odd : ODD) {
            c.due("20: NONE if there is none, row " + odd, NO, x.golden(odd, 0, 7, 7));
            c.due("21: NONE without, row " + odd, NO, x.from(odd, 0, 7, 7));
            c.due("20: NONE if there is none, field " + odd, NO, x.golden(0, odd, 7, 7));
            c.due("21: NONE without, field " + odd, NO, x.from(0, odd, 7, 7));
        }
        c.due("20: NONE, no field 6", NO, x.golden(0, 6, 7, 7));
        c.due("21: NONE, no field 6", NO, x.from(0, 6, 7, 7));
        c.due("20: NONE of a ROW without a VALUE", NO, x.golden(6, 0, 7, 7));
        c.due("21: NONE of a ROW without a VALUE", NO, x.from(6, 0, 7, 7));
        c.due("20: NONE of a FORGOTTEN ROW", NO, x.golden(7, 0, 7, 7));
        c.due("20: NONE before the first day", NO, x.golden(0, 1, -1, 7));
        c.due("21: NONE before the first day", NO, x.from(0, 1, -1, 7));
        c.due("20: NONE as known before the first day", NO, x.golden(0, 1, 7, -1));
        c.due("20: a FIX holds on whatever day", 900, x.golden(0, 0, -1, 7));
    }

    private static void fromWhom() {
        GoldenRows x = Past.person(5, 6, 6, 6);
        c.due("21: (the least number of like ones)", 1, x.from(0, 0, 0, 0));
        x.trust(3, 0, 2);
        c.due("21: FROM the ROW with the greatest WEIGHT that speaks for it", 3, x.from(0, 0, 0, 0));
        x.trust(0, 0, 3);
        c.due("21: that speaks for it, not for another", 3, x.from(0, 0, 0, 0));
        x.trust(0, 0, 1);
        x.set(2, 0, 6, 4);
        x.fade(0, 25);
        c.due("21: 100, and 200 - 25 * 4: of like ones", 2, x.from(1, 0, 4, 0));
        c.due("21: 100 - 25, 200 - 25 * 3", 3, x.from(1, 0, 3, 0));
        x.fix(0, 0, 6);
        c.due("21: -2 if by a FIX", -2, x.from(3, 0, 0, 0));
        x.unfix(0);
        c.due("21: no FIX holds", 3, x.from(3, 0, 0, 0));
    }

    private static void tornCounts() {
        String s = "22: How many different VALUES are spoken for";
        GoldenRows x = new GoldenRows();
        for (int i = 0; i < 10; i++) {
            x.row(0);
            if (i > 0) {
                x.hand(0, i, true);
            }
            c.due(s + ": " + i, i, x.torn(0, 5, 0, 0));
            x.set(i, 5, 100 + i, 0);
        }
        c.due(s + ": ten", 10, x.torn(9, 5, 0, 0));
        x.set(9, 5, 100, 0);
        c.due(s + ", different ones", 9, x.torn(9, 5, 0, 0));
        x.fix(0, 5, 999);
        c.due("22: (FIXES aside)", 9, x.torn(0, 5, 0, 0));
        x.fix(0, 4, 999);
        c.due("22: (FIXES aside), none", 0, x.torn(0, 4, 0, 0));
        c.due(s + ": of another FIELD", 0, x.torn(0, 3, 0, 0));
        c.due(s + ": on a day before", 0, x.torn(0, 5, -1, 0));
    }

    private static void tornOfNone() {
        GoldenRows x = Past.lively();
        for (int row : ODD) {
            c.due("22: NONE if it has no PERSON, " + row, NO, x.torn(row, 0, 7, 7));
        }
        c.due("22: NONE if it has no PERSON, FORGOTTEN", NO, x.torn(7, 0, 7, 7));
        c.due("22: NONE if it has no PERSON, not there", NO, x.torn(0, 0, 7, -1));
        c.due("22: a PERSON without VALUES", 0, x.torn(6, 0, 7, 7));
    }

    private static void echoIsNoWitness() {
        String s = "20: each ROW of it whose VALUE's VERSION is no ECHO speaks";
        GoldenRows x = Past.person(5, 6, 6);
        x.trust(0, 0, 3);
        x.rights(1, 1);
        x.rights(2, 1);
        x.accept(1, 0);
        x.accept(2, 0);
        x.trust(0, 0, 0);
        c.due(s + ": the rows have the value", 5, x.value(2, 0, 0, 0));
        c.due(s + ": one VALUE", 1, x.torn(0, 0, 0, 0));
        c.due(s + ": FROM the one that speaks", 0, x.from(0, 0, 0, 0));
        x.later(1);
        x.set(0, 0, 7, 1);
        c.due(s + ": echoes of 5 weigh nothing", 7, x.golden(1, 0, 1, 1));
        x.set(1, 0, 5, 1);
        c.due(s + ": told by the SOURCE itself it speaks", 5, x.golden(0, 0, 1, 1));
        x.forget(0);
        x.forget(1);
        c.due(s + ": an ECHO alone has no GOLDEN", NO, x.golden(2, 0, 1, 1));
        c.due("21: NONE without", NO, x.from(2, 0, 1, 1));
        c.due("22: none is spoken for", 0, x.torn(2, 0, 1, 1));
        c.due(s + ": and makes no CHANGE", 0, x.changes(2));
    }

    private static void fixNumbers() {
        GoldenRows x = Past.rows(10);
        c.due("23: the least", 0, x.fix(0, 0, 0));
        c.due("23: the least value", 0, x.golden(0, 0, 0, 0));
        c.due("23: the greatest", 1, x.fix(9, 5, 999999));
        c.due("23: the greatest value", 999999, x.golden(9, 5, 0, 0));
        for (int i = 2; i < 20; i++) {
            c.due("23: FIX (20 at most): its number", i, x.fix(i % 10, 3, i));
            c.due("23: how many", i + 1, x.about(4));
        }
        c.due("23: the 20th is one as any", 19, x.golden(9, 3, 0, 0));
    }

    private static void fixRefused() {
        lively.refuse("23: NONE, doing nothing, if it can't be", NO,
            x -> x.fix(-1, 0, 5), x -> x.fix(8, 0, 5), x -> x.fix(10, 0, 5), x -> x.fix(DEEP, 0, 5), x -> x.fix(FAR, 0, 5),
            x -> x.fix(0, -1, 5), x -> x.fix(0, 6, 5), x -> x.fix(0, DEEP, 5), x -> x.fix(0, FAR, 5),
            x -> x.fix(0, 0, -1), x -> x.fix(0, 0, 1000000), x -> x.fix(0, 0, DEEP), x -> x.fix(0, 0, FAR));
        lively.refuse("23: NONE, doing nothing, of a FORGOTTEN ROW", NO, x -> x.fix(7, 0, 5));
        new Twins(c, Past::fullOfFixes).refuse("23: NONE, doing nothing, if there are 20", NO,
            x -> x.fix(0, 0, 77), x -> x.fix(1, 5, 0));
    }

    private static void fixHolds() {
        String s = "23: told by hand for a ROW and FIELD on the DAY, UNTOLD like HANDS";
        GoldenRows x = Past.person(5);
        x.later(5);
        x.fix(0, 0, 6);
        x.later(4);
        c.due("24: UNTOLD", true, x.unfix(0));
        int[][] due = {{0, 5}, {4, 5}, {5, 6}, {8, 6}, {9, 5}, {FAR, 5}};
        for (int[] known : due) {
            c.due(s + ", " + known[0], known[1], x.golden(0, 0, 0, known[0]));
            c.due(s + ", on whatever day", known[1], x.golden(0, 0, FAR, known[0]));
            c.due("21: -2 if by a FIX", known[1] == 6 ? -2 : 0, x.from(0, 0, 0, known[0]));
        }
        x.fix(0, 0, 7);
        c.due(s + ", told today", 7, x.golden(0, 0, 0, 9));
        c.due(s + ", or the same day", true, x.unfix(1));
        c.due(s + ", it holds on no day", 5, x.golden(0, 0, 0, 9));
    }

    private static void latestFix() {
        String s = "20: that of the latest FIX for a ROW of it that holds";
        GoldenRows x = Past.person(5, 6);
        x.row(5);
        x.fix(1, 0, 100);
        x.fix(0, 0, 50);
        c.due(s + ": on one day", 50, x.golden(1, 0, 0, 0));
        x.later(1);
        x.fix(1, 0, 70);
        c.due(s + ": on a later one", 70, x.golden(0, 0, 0, 1));
        c.due(s + ": as known before", 50, x.golden(0, 0, 0, 0));
        x.fix(2, 0, 30);
        c.due(s + ": not of another's ROW", 70, x.golden(0, 0, 0, 1));
        x.fix(0, 1, 20);
        c.due(s + ": not of another FIELD", 70, x.golden(0, 0, 0, 1));
        x.unfix(2);
        c.due(s + ": of those that hold", 50, x.golden(0, 0, 0, 1));
        x.forget(0);
        c.due(s + ": not of a FORGOTTEN ROW", 100, x.golden(1, 0, 0, 1));
    }

    private static void unfixRefused() {
        lively.refuse("24: false if it is so already", 0, x -> Twins.bit(x.unfix(1)));
        lively.refuse("24: false if there is none such", 0, x -> Twins.bit(x.unfix(2)), x -> Twins.bit(x.unfix(-1)),
            x -> Twins.bit(x.unfix(20)), x -> Twins.bit(x.unfix(DEEP)), x -> Twins.bit(x.unfix(FAR)));
        new Twins(c, Past::fullOfFixes).refuse("24: of 20", 0, x -> Twins.bit(x.unfix(19)), x -> Twins.bit(x.unfix(20)));
        GoldenRows x = Past.fullOfFixes();
        x.later(1);
        c.due("24: false on a later day as well", false, x.unfix(19));
        c.due("24: and the first untelling stays", 18, x.golden(0, 0, 0, 0));
    }

    private static void changesNow() {
        String s = "25: now (today, as known today)";
        GoldenRows x = Past.person(5, 6);
        x.rights(1, 1);
        x.set(0, 0, 6, 2);
        c.due(s + ": today they differ", 1, x.changes(1));
        x.later(1);
        c.due(s + ": the day before", 1, x.changes(1));
        x.later(1);
        c.due(s + ": from today on they do not", 0, x.changes(1));
        x.set(0, 0, 4, 3);
        c.due(s + ": not tomorrow", 0, x.changes(1));
        x.set(0, 0, 4, 2);
        c.due(s + ": told today", 1, x.changes(1));
        c.due(s + ": its value", 4, x.change(1, 0, 2));
    }

    private static void changeUnlessLike() {
        String s = "25: a GOLDEN that is not the ROW's VALUE (none is another one, too)";
        GoldenRows x = Past.person(0, 0);
        x.rights(0, 63);
        x.rights(1, 63);
        c.due(s + ": the same", 0, x.changes(1));
        x.set(0, 1, 0, 0);
        c.due(s + ": none, and 0", 1, x.changes(1));
        c.due(s + ": field 1", 1, x.change(1, 0, 1));
        c.due(s + ": 0", 0, x.change(1, 0, 2));
        c.due(s + ": not for the one it is from", 0, x.changes(0));
        x.fix(0, 0, 0);
        c.due(s + ": a FIX of the same", 1, x.changes(1));
        x.fix(0, 0, 1);
        c.due(s + ": a FIX of another", 1, x.changes(0));
        c.due(s + ": no GOLDEN, no CHANGE", 2, x.changes(1));
        c.due("25: a FIELD it may be sent", true, x.rights(1, 62));
        c.due("25: not one it may not", 1, x.changes(1));
    }

    private static void changeOrder() {
        String s = "26: in order by ROW, then FIELD";
        GoldenRows x = Past.rows(10);
        for (int i = 1; i < 10; i++) {
            x.hand(0, i, true);
        }
        for (int field = 5; field >= 0; field--) {
            x.fix(9 - field, field, 100 + field);
        }
        x.rights(0, 63);
        c.due("25: as many as can be", 60, x.changes(0));
        for (int k = 0; k < 60; k++) {
            c.due(s + ": what 0: its ROW", k / 6, x.change(0, k, 0));
            c.due(s + ": 1: FIELD", k % 6, x.change(0, k, 1));
            c.due(s + ": 2: value", 100 + k % 6, x.change(0, k, 2));
        }
        c.due("26: NONE if there is none such, 60", NO, x.change(0, 60, 0));
        c.due("27: the last", true, x.accept(0, 59));
        c.due("27: is that of row 9 and field 5", 105, x.value(9, 5, 0, 0));
        c.due("28: the last", true, x.refuse(0, 58));
        c.due("28: is that of row 9 and field 4", 3, x.change(0, 57, 1));
        c.due("28: no more", 58, x.changes(0));
    }

    private static void changesOfNone() {
        GoldenRows x = Past.lively();
        for (int source : new int[] {DEEP, -1, 6, 7, 10, FAR}) {
            c.due("25: NONE if there is none such, " + source, NO, x.changes(source));
        }
        GoldenRows y = new GoldenRows();
        for (int source = 0; source < 6; source++) {
            y.rights(source, 63);
            c.due("25: a SOURCE without ROWS", 0, y.changes(source));
        }
    }

    private static void changeOfNone() {
        GoldenRows x = Past.lively();
        String s = "26: NONE if there is none such";
        c.due(s + ": two", 2, x.changes(1));
        c.due("26: the first", 1, x.change(1, 0, 0));
        c.due("26: the last", 2, x.change(1, 1, 1));
        for (int odd : new int[] {DEEP, -1, 2, 3, 6, 60, FAR}) {
            c.due(s + ", k " + odd, NO, x.change(1, odd, 0));
            c.due(s + ", what " + odd, odd == 2 ? 900 : NO, x.change(1, 0, odd));
        }
        for (int odd : new int[] {DEEP, -1, 6, 7, FAR}) {
            c.due(s + ", source " + odd, NO, x.change(odd, 0, 0));
        }
    }

    private static void acceptToday() {
        String s = "27: ACCEPTED it becomes a VERSION, from today on";
        GoldenRows x = Past.person(5, 6);
        x.rights(1, 1);
        x.set(1, 0, 8, 4);
        x.later(3);
        c.due(s, true, x.accept(1, 0));
        c.due(s + ": one more", 4, x.about(2));
        c.due(s + ": today", 5, x.value(1, 0, 3, 3));
        c.due(s + ": not yesterday", 6, x.value(1, 0, 2, 3));
        c.due(s + ": not as known yesterday", 6, x.value(1, 0, 3, 2));
        c.due(s + ": until a later day's", 8, x.value(1, 0, 4, 3));
        c.due(s + ": it is none any more", 0, x.changes(1));
        GoldenRows y = Past.fullOfVersions();
        GoldenRows z = Past.person(5, 6);
        z.rights(1, 1);
        for (int i = 2; i < 149; i++) {
            z.set(0, 1, i, 0);
        }
        c.due("27: the 150th VERSION", true, z.accept(1, 0));
        c.due("27: 150", 150, z.about(2));
        c.due("27: a 151st can't be", false, y.accept(1, 0));
    }

    private static void acceptRefused() {
        lively.refuse("27: false, doing nothing, if there is none such", 0,
            x -> Twins.bit(x.accept(1, 2)), x -> Twins.bit(x.accept(1, -1)), x -> Twins.bit(x.accept(2, 1)),
            x -> Twins.bit(x.accept(1, DEEP)), x -> Twins.bit(x.accept(1, FAR)), x -> Twins.bit(x.accept(-1, 0)),
            x -> Twins.bit(x.accept(6, 0)), x -> Twins.bit(x.accept(DEEP, 0)), x -> Twins.bit(x.accept(FAR, 0)));
        new Twins(c, Past::fullOfVersions).refuse("27: false, doing nothing, if there are 150 VERSIONS", 0,
            x -> Twins.bit(x.accept(1, 0)));
    }

    private static void refuseJustThat() {
        String s = "28: unless just that value was REFUSED for this ROW and FIELD";
        GoldenRows x = new GoldenRows();
        for (int row = 0; row < 3; row++) {
            x.row(row / 2);
            x.hand(0, row, true);
        }
        x.rights(0, 3);
        x.fix(2, 0, 5);
        x.fix(2, 1, 5);
        c.due(s + ": four", 4, x.changes(0));
        c.due(s, true, x.refuse(0, 0));
        c.due(s + ": how many", 1, x.about(6));
        c.due(s + ": three", 3, x.changes(0));
        c.due(s + ", not for another FIELD", 1, x.change(0, 0, 1));
        c.due(s + ", not for another ROW", 1, x.change(0, 1, 0));
        x.fix(2, 0, 6);
        c.due(s + ", not another value", 4, x.changes(0));
        x.later(1);
        x.fix(2, 0, 5);
        c.due(s + ", on a later day, too", 3, x.changes(0));
        c.due(s + ": the VALUE stays", NO, x.value(0, 0, 1, 1));
        c.due(s + ": the GOLDEN stays", 5, x.golden(0, 0, 1, 1));
    }

    private static void refuseRefused() {
        lively.refuse("28: false, doing nothing, if there is none such", 0,
            x -> Twins.bit(x.refuse(1, 2)), x -> Twins.bit(x.refuse(1, -1)), x -> Twins.bit(x.refuse(2, 1)),
            x -> Twins.bit(x.refuse(1, DEEP)), x -> Twins.bit(x.refuse(1, FAR)), x -> Twins.bit(x.refuse(-1, 0)),
            x -> Twins.bit(x.refuse(6, 0)), x -> Twins.bit(x.refuse(DEEP, 0)), x -> Twins.bit(x.refuse(FAR, 0)));
        new Twins(c, Past::fullOfRefusals).refuse("28: false, doing nothing, if there are 60", 0,
            x -> Twins.bit(x.refuse(0, 0)), x -> Twins.bit(x.refuse(0, 9)));
        GoldenRows x = Past.fullOfRefusals();
        c.due("28: (60 at most)", 60, x.about(6));
        c.due("28: ten are left", 10, x.changes(0));
        c.due("27: which can be ACCEPTED", true, x.accept(0, 9));
        c.due("28: nine are left", 9, x.changes(0));
    }

    private static void aboutEdges() {
        GoldenRows x = Past.lively();
        int[] due = {7, 8, 36, 6, 2, 2, 1, 23};
        for (int what = 0; what < 8; what++) {
            c.due("29: What " + what, due[what], x.about(what));
        }
        for (int what : ODD) {
            c.due("29: NONE for another what, " + what, NO, x.about(what));
        }
        x.forget(0);
        c.due("29: ROWS (FORGOTTEN ones, too)", 8, x.about(1));
        x.unhand(0);
        x.unfix(0);
        c.due("29: HANDS, UNTOLD ones are still told", 6, x.about(3));
        c.due("29: FIXES, UNTOLD ones are still told", 2, x.about(4));
        c.due("29: the greatest DAY", 100000, Past.lastDay().about(0));
        c.due("29: the most bytes", 500, Past.fullTape().about(7));
    }

    /** All that an object can hold, at once, and asked up to its 512th call. */
    private static void fullHouse() {
        GoldenRows x = Past.fullOfRefusals();
        int calls = 10 + 9 + 6 + 1 + 60 + 1;
        for (int i = 0; i < 150; i++) {
            c.due("6: full house", i + 1, x.set(i % 10, i % 6, i, i % 5));
        }
        for (int i = 7; i < 20; i++) {
            c.due("23: full house", i, x.fix(i % 10, 4, i));
        }
        for (int i = 9; i < 20; i++) {
            c.due("15: full house", i, x.hand(i % 10, (i + 3) % 10, true));
        }
        c.due("12: full house", 10, Check.rules(x, "bar 1000 when not(lacks 5 or same 1)and near 0 99;".repeat(10)));
        calls += 150 + 13 + 11 + 25 + 1 + 1;
        int[] due = {0, 10, 150, 20, 20, 10, 60, 0};
        for (int what = 0; what < 8; what++) {
            c.due("29: full house, what " + what, due[what], x.about(what));
        }
        calls += 8;
        c.due("terms: there is room for more calls", true, calls < 512);
        for (; calls < 511; calls++) {
            c.due("20: full house", 19, x.golden(calls % 10, 4, 4, 0));
        }
        c.due("terms: the 512th call", 1, x.persons(4, 0));
    }
}
