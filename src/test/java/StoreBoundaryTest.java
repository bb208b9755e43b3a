/** The sentences of promises 1 to 11, and of part 1 of the terms, that name a boundary case; each has a test of its own. */
public final class StoreBoundaryTest {
    private static final int FAR = Integer.MAX_VALUE;
    private static final int DEEP = Integer.MIN_VALUE;
    private static final int NO = GoldenRows.NONE;
    private static final int LAST_DAY = 100000;
    private static final int[] DAYS = {DEEP, -1, 0, 1, LAST_DAY, LAST_DAY + 1, FAR};
    private static final Check c = new Check("StoreBoundaryTest");
    private static final Twins lively = new Twins(c, Past::lively);

    public static void main(String[] args) {
        nothingAtFirst();
        trustAtFirst();
        fadeAtFirst();
        rightsAtFirst();
        trustEdges();
        trustRefused();
        fadeEdges();
        fadeRefused();
        rightsEdges();
        rightsRefused();
        rowNumbers();
        rowIsThereFromItsDayOn();
        rowRefused();
        setEdges();
        setRefused();
        valueAsKnown();
        valueFromADay();
        valueOfLikeDays();
        valueOfNone();
        forgetRefused();
        forgottenOnWhateverDay();
        forgottenNumberStays();
        laterEdges();
        laterRefused();
        feedEdges();
        feedRefused();
        endEdges();
        endRefused();
        c.close();
    }

    private static void nothingAtFirst() {
        GoldenRows x = new GoldenRows();
        String s = "1: No ROWS, no RULES; DAY 0";
        for (int what = 0; what < 8; what++) {
            c.due(s + ": about " + what, 0, x.about(what));
        }
        for (int day : DAYS) {
            c.due(s + ": persons", 0, x.persons(day, day));
            c.due(s + ": worth", 0, x.worth(day, day));
            c.due(s + ": value", NO, x.value(0, 0, day, day));
            c.due(s + ": score", 0, x.score(0, 1, day, day));
            c.due(s + ": person", NO, x.person(0, day, day));
            c.due(s + ": golden", NO, x.golden(0, 0, day, day));
            c.due(s + ": from", NO, x.from(0, 0, day, day));
            c.due(s + ": torn", NO, x.torn(0, 0, day, day));
        }
        c.due(s + ": end", 0, x.end(0));
        c.due(s + ": fault", 0, x.fault(0));
        c.due(s + ": place", NO, x.fault(1));
        c.due(s + ": unhand", false, x.unhand(0));
        c.due(s + ": unfix", false, x.unfix(0));
        c.due(s + ": forget", false, x.forget(0));
    }

    /** A person whose row 0, of a source, says 10 in a field, and row 1, of the next source, 20. */
    private static GoldenRows pair(int source, int field) {
        GoldenRows x = new GoldenRows();
        x.row(source);
        x.row((source + 1) % 6);
        x.set(0, field, 10, 0);
        x.set(1, field, 20, 0);
        x.hand(0, 1, true);
        return x;
    }

    /** The trust of a pair's source: the greatest of the next source's with which 10 still wins (it does of like ones). */
    private static int trustOf(GoldenRows x, int source, int field) {
        int trust = 9;
        x.trust((source + 1) % 6, field, trust);
        while (trust > 0 && x.golden(0, field, 0, 0) != 10) {
            trust--;
            x.trust((source + 1) % 6, field, trust);
        }
        return x.golden(0, field, 0, 0) == 10 ? trust : NO;
    }

    private static void trustAtFirst() {
        for (int source = 0; source < 6; source++) {
            for (int field = 0; field < 6; field++) {
                String s = "terms 1: TRUST in each FIELD (1 at first), " + source + " " + field;
                c.due(s, 1, trustOf(pair(source, field), source, field));
            }
        }
    }

    private static void trustEdges() {
        for (int source = 0; source < 6; source++) {
            for (int field = 0; field < 6; field++) {
                String s = "2: TRUST 0 .. 9, " + source + " " + field;
                GoldenRows x = pair(source, field);
                c.due(s + ": 0", true, x.trust(source, field, 0));
                c.due(s + ": is 0", 0, trustOf(x, source, field));
                c.due(s + ": 9", true, x.trust(source, field, 9));
                c.due(s + ": is 9", 9, trustOf(x, source, field));
                GoldenRows y = pair(source, field);
                y.trust(source, (field + 1) % 6, 9);
                y.trust((source + 5) % 6, field, 9);
                c.due(s + ": of no other field and source", 1, trustOf(y, source, field));
            }
        }
    }

    private static void trustRefused() {
        lively.refuse("2: false, doing nothing, if one can't be", 0,
            x -> Twins.bit(x.trust(-1, 0, 9)), x -> Twins.bit(x.trust(6, 0, 9)),
            x -> Twins.bit(x.trust(DEEP, 1, 9)), x -> Twins.bit(x.trust(FAR, 1, 9)),
            x -> Twins.bit(x.trust(0, -1, 9)), x -> Twins.bit(x.trust(1, -1, 9)),
            x -> Twins.bit(x.trust(0, 6, 9)), x -> Twins.bit(x.trust(5, 6, 9)),
            x -> Twins.bit(x.trust(1, DEEP, 9)), x -> Twins.bit(x.trust(1, FAR, 9)),
            x -> Twins.bit(x.trust(1, 1, 10)), x -> Twins.bit(x.trust(4, 4, -1)),
            x -> Twins.bit(x.trust(1, 1, FAR)), x -> Twins.bit(x.trust(4, 4, DEEP)));
    }

    private static void fadeAtFirst() {
        for (int field = 0; field < 6; field++) {
            GoldenRows x = pair(0, field);
            x.trust(1, field, 0);
            x.set(1, field, 20, LAST_DAY);
            c.due("terms 1: each FIELD a FADE (0 at first), " + field, 10, x.golden(0, field, LAST_DAY, 0));
        }
    }

    private static void fadeEdges() {
        for (int field = 0; field < 6; field++) {
            String s = "3: FADE 0 .. 50, " + field;
            GoldenRows x = pair(0, field);
            x.trust(0, field, 9);
            x.trust(1, field, 0);
            x.set(1, field, 20, 1);
            c.due(s + ": 50", true, x.fade(field, 50));
            c.due(s + ": 900 - 50 * 17", 10, x.golden(0, field, 17, 0));
            c.due(s + ": 900 - 50 * 18", 20, x.golden(0, field, 18, 0));
            c.due(s + ": 49", true, x.fade(field, 49));
            c.due(s + ": 900 - 49 * 18", 10, x.golden(0, field, 18, 0));
            c.due(s + ": 1", true, x.fade(field, 1));
            c.due(s + ": 900 - 899", 10, x.golden(0, field, 899, 0));
            c.due(s + ": 900 - 900", 20, x.golden(0, field, 900, 0));
            c.due(s + ": 0", true, x.fade(field, 0));
            c.due(s + ": 900", 10, x.golden(0, field, FAR, 0));
            c.due(s + ": another field's", true, x.fade((field + 1) % 6, 50));
            c.due(s + ": is not this one's", 10, x.golden(0, field, 18, 0));
        }
    }

    private static void fadeRefused() {
        lively.refuse("3: likewise (false, doing nothing, if one can't be)", 0,
            x -> Twins.bit(x.fade(-1, 50)), x -> Twins.bit(x.fade(6, 50)),
            x -> Twins.bit(x.fade(DEEP, 50)), x -> Twins.bit(x.fade(FAR, 50)),
            x -> Twins.bit(x.fade(2, -1)), x -> Twins.bit(x.fade(2, 51)),
            x -> Twins.bit(x.fade(2, DEEP)), x -> Twins.bit(x.fade(2, FAR)));
    }

    /** A row of a source with a fix in every field, so that each right makes a change. */
    private static GoldenRows wanting(int source) {
        GoldenRows x = new GoldenRows();
        x.row(source);
        for (int field = 0; field < 6; field++) {
            x.fix(0, field, field);
        }
        return x;
    }

    private static void rightsAtFirst() {
        for (int source = 0; source < 6; source++) {
            c.due("terms 4: bits of FIELDS that it may be sent (none at first)", 0, wanting(source).changes(source));
        }
    }

    private static void rightsEdges() {
        for (int source = 0; source < 6; source++) {
            GoldenRows x = wanting(source);
            String s = "4: RIGHTS of a SOURCE (bits, 0 .. 63), " + source;
            c.due(s + ": 63", true, x.rights(source, 63));
            c.due(s + ": all", 6, x.changes(source));
            for (int field = 0; field < 6; field++) {
                c.due(s + ": a bit", true, x.rights(source, 1 << field));
                c.due(s + ": one", 1, x.changes(source));
                c.due(s + ": field " + field, field, x.change(source, 0, 1));
            }
            c.due(s + ": another's", true, x.rights((source + 1) % 6, 63));
            c.due(s + ": is not its", 1, x.changes(source));
            c.due(s + ": 0", true, x.rights(source, 0));
            c.due(s + ": none", 0, x.changes(source));
        }
    }

    private static void rightsRefused() {
        lively.refuse("4: likewise (false, doing nothing, if one can't be)", 0,
            x -> Twins.bit(x.rights(-1, 62)), x -> Twins.bit(x.rights(6, 62)),
            x -> Twins.bit(x.rights(DEEP, 62)), x -> Twins.bit(x.rights(FAR, 62)),
            x -> Twins.bit(x.rights(0, -1)), x -> Twins.bit(x.rights(0, 64)),
            x -> Twins.bit(x.rights(3, DEEP)), x -> Twins.bit(x.rights(3, FAR)));
    }

    private static void rowNumbers() {
        GoldenRows x = new GoldenRows();
        for (int i = 0; i < 10; i++) {
            c.due("5: numbered from 0 on, 10 at most", i, x.row(5 - i % 6));
            c.due("5: how many", i + 1, x.about(1));
            c.due("5: there at once", i + 1, x.persons(0, 0));
        }
        Check.rules(x, "link 1 when source;");
        c.due("5: SOURCES 0 .. 5: row 0 and 6 are of source 5", 1, x.score(0, 6, 0, 0));
        c.due("5: SOURCES 0 .. 5: row 5 is of source 0, row 9 of 2", 0, x.score(5, 9, 0, 0));
        c.due("5: the last is a row as any", 1, x.set(9, 5, 1, 0));
        c.due("5: with a person", 0, x.person(9, 0, 0) - x.person(3, 0, 0));
    }

    private static void rowIsThereFromItsDayOn() {
        String s = "5: there as known from the DAY on which it was told";
        GoldenRows x = Past.rows(1);
        x.later(4);
        x.row(0);
        Check.rules(x, "link 1 when source;");
        for (int d : DAYS) {
            c.due(s + ": persons before", 1, x.persons(d, 3));
            c.due(s + ": person before", NO, x.person(1, d, 3));
            c.due(s + ": score before", 0, x.score(0, 1, d, 3));
            c.due(s + ": worth before", 0, x.worth(d, 3));
            c.due(s + ": golden before", NO, x.golden(1, 0, d, 3));
            c.due(s + ": torn before", NO, x.torn(1, 0, d, 3));
            c.due(s + ": person", 0, x.person(1, d, 4));
            c.due(s + ": score", 1, x.score(0, 1, d, 4));
            c.due(s + ": worth", 1, x.worth(d, 4));
            c.due(s + ": torn", 0, x.torn(1, 0, d, 4));
        }
        c.due(s + ": nobody before day 0", 0, x.persons(0, -1));
        c.due(s + ": ever after", 0, x.person(1, 0, FAR));
    }

    private static void rowRefused() {
        lively.refuse("5: NONE, doing nothing, if there is no such SOURCE", NO,
            x -> x.row(-1), x -> x.row(6), x -> x.row(DEEP), x -> x.row(FAR));
        new Twins(c, () -> Past.rows(10)).refuse("5: NONE, doing nothing, if there are 10", NO,
            x -> x.row(0), x -> x.row(5), x -> x.row(6));
    }

    private static void setEdges() {
        GoldenRows x = Past.rows(10);
        String s = "6: a value (0 .. 999999) from a day (0 .. 100000) on";
        c.due(s + ": the least", 1, x.set(0, 0, 0, 0));
        c.due(s + ": the least value", 0, x.value(0, 0, 0, 0));
        c.due(s + ": the greatest", 2, x.set(9, 5, 999999, LAST_DAY));
        c.due(s + ": the greatest value", 999999, x.value(9, 5, LAST_DAY, 0));
        c.due(s + ": not the day before", NO, x.value(9, 5, LAST_DAY - 1, 0));
        GoldenRows y = Past.fullOfVersions();
        c.due("6: VERSIONS, 150 at most", 150, y.about(2));
        c.due("6: the 150th is one as any", 149, y.value(1, 5, 149, 0));
        GoldenRows z = Past.rows(1);
        for (int i = 1; i <= 150; i++) {
            c.due("6: how many VERSIONS", i, z.set(0, 0, i, 0));
        }
    }

    private static void setRefused() {
        lively.refuse("6: NONE, doing nothing, if it can't be", NO,
            x -> x.set(-1, 0, 7, 0), x -> x.set(8, 0, 7, 0), x -> x.set(10, 0, 7, 0),
            x -> x.set(DEEP, 0, 7, 0), x -> x.set(FAR, 0, 7, 0),
            x -> x.set(0, -1, 7, 0), x -> x.set(1, -1, 7, 9), x -> x.set(0, 6, 7, 9),
            x -> x.set(0, DEEP, 7, 0), x -> x.set(0, FAR, 7, 0),
            x -> x.set(0, 0, -1, 9), x -> x.set(0, 0, 1000000, 9),
            x -> x.set(0, 0, DEEP, 9), x -> x.set(0, 0, FAR, 9),
            x -> x.set(6, 0, 7, -1), x -> x.set(0, 0, 7, LAST_DAY + 1),
            x -> x.set(6, 0, 7, DEEP), x -> x.set(0, 0, 7, FAR));
        lively.refuse("6: NONE, doing nothing, if the ROW is FORGOTTEN, too", NO, x -> x.set(7, 0, 7, 0));
        new Twins(c, Past::fullOfVersions).refuse("6: NONE, doing nothing, if there are 150", NO,
            x -> x.set(0, 0, 7, 0), x -> x.set(1, 5, 7, LAST_DAY), x -> x.set(2, 0, 7, 0));
    }

    private static void valueAsKnown() {
        GoldenRows x = Past.rows(1);
        x.set(0, 0, 1, 0);
        x.later(5);
        x.set(0, 0, 2, 0);
        x.later(5);
        x.set(0, 0, 3, 0);
        String s = "7: of the VERSIONS TOLD on k or before";
        int[][] due = {{DEEP, NO}, {-1, NO}, {0, 1}, {4, 1}, {5, 2}, {9, 2}, {10, 3}, {11, 3}, {FAR, 3}};
        for (int[] known : due) {
            c.due(s + ", " + known[0], known[1], x.value(0, 0, 0, known[0]));
        }
    }

    private static void valueFromADay() {
        GoldenRows x = Past.rows(1);
        x.set(0, 0, 3, 10);
        x.set(0, 0, 1, 0);
        x.set(0, 0, 4, LAST_DAY);
        x.set(0, 0, 2, 5);
        String s = "7: from a day not after d, the one with the greatest day";
        int[][] due = {{DEEP, NO}, {-1, NO}, {0, 1}, {4, 1}, {5, 2}, {9, 2}, {10, 3}, {99999, 3}, {LAST_DAY, 4}, {FAR, 4}};
        for (int[] day : due) {
            c.due(s + ", " + day[0], day[1], x.value(0, 0, day[0], 0));
        }
    }

    private static void valueOfLikeDays() {
        String s = "7: of like ones the one told last";
        GoldenRows x = Past.rows(1);
        x.set(0, 0, 9, 5);
        x.set(0, 0, 2, 5);
        c.due(s + " on one day", 2, x.value(0, 0, 5, 0));
        x.later(1);
        x.set(0, 0, 7, 5);
        c.due(s + " on a later one", 7, x.value(0, 0, 5, 1));
        c.due(s + " as known before", 2, x.value(0, 0, 5, 0));
        x.set(0, 0, 1, 4);
        c.due(s + ", not one of a day before", 7, x.value(0, 0, 5, 1));
    }

    private static void valueOfNone() {
        GoldenRows x = Past.rows(10);
        for (int field = 0; field < 6; field++) {
            x.set(0, field, 1, 0);
            x.set(9, field, 1, 0);
        }
        String s = "7: NONE";
        int[][] none = {{1, 0}, {8, 5}, {-1, 5}, {-1, 0}, {10, 0}, {DEEP, 0}, {FAR, 0}, {0, -1}, {0, 6}, {9, 6}, {8, 6}, {1, -1},
            {9, DEEP}, {0, FAR}};
        for (int[] cell : none) {
            c.due(s + " of " + cell[0] + " " + cell[1], NO, x.value(cell[0], cell[1], 0, 0));
        }
    }

    private static void forgetRefused() {
        lively.refuse("8: false if it is so already", 0, x -> Twins.bit(x.forget(7)));
        lively.refuse("8: false if there is none such", 0, x -> Twins.bit(x.forget(8)), x -> Twins.bit(x.forget(9)),
            x -> Twins.bit(x.forget(10)), x -> Twins.bit(x.forget(-1)), x -> Twins.bit(x.forget(FAR)), x -> Twins.bit(x.forget(DEEP)));
        GoldenRows x = Past.rows(10);
        c.due("8: the first", true, x.forget(0));
        c.due("8: the last", true, x.forget(9));
    }

    /** Row 1 holds all together: by hands, by a fix, by its values. */
    private static void forgottenOnWhateverDay() {
        String s = "8: none of all that is told below, on whatever day, as known on whatever day";
        GoldenRows x = Past.person(5, 6, 7);
        Check.rules(x, "link 5 when not source;");
        x.hand(1, 2, true);
        x.hand(0, 2, false);
        x.unhand(1);
        x.fix(1, 0, 9);
        x.rights(1, 63);
        c.due(s + ": the hands quarrel", -2, x.persons(0, 0));
        x.later(3);
        c.due(s + ": forget", true, x.forget(1));
        for (int[] day : new int[][] {{0, 0}, {0, 2}, {3, 0}, {3, 3}, {LAST_DAY, FAR}}) {
            c.due(s + ": value", NO, x.value(1, 0, day[0], day[1]));
            c.due(s + ": score", 0, x.score(0, 1, day[0], day[1]));
            c.due(s + ": score", 0, x.score(1, 2, day[0], day[1]));
            c.due(s + ": persons", 2, x.persons(day[0], day[1]));
            c.due(s + ": worth", 0, x.worth(day[0], day[1]));
            c.due(s + ": person", NO, x.person(1, day[0], day[1]));
            c.due(s + ": golden", NO, x.golden(1, 0, day[0], day[1]));
            c.due(s + ": from", NO, x.from(1, 0, day[0], day[1]));
            c.due(s + ": torn", NO, x.torn(1, 0, day[0], day[1]));
            c.due(s + ": another's golden", 5, x.golden(0, 0, day[0], day[1]));
            c.due(s + ": another's from", 2, x.from(2, 0, day[0], day[1]));
            c.due(s + ": another's torn", 1, x.torn(2, 0, day[0], day[1]));
        }
        c.due(s + ": changes", 0, x.changes(1));
    }

    private static void forgottenNumberStays() {
        String s = "8: its number stays";
        GoldenRows x = Past.rows(3);
        x.forget(0);
        x.forget(2);
        c.due(s + ": rows", 3, x.about(1));
        c.due(s + ": the next", 3, x.row(0));
        c.due(s + ": row 1", 0, x.person(1, 0, 0));
        c.due(s + ": row 3", 1, x.person(3, 0, 0));
        c.due(s + ": of row 2 there is none", NO, x.person(2, 0, 0));
    }

    private static void laterEdges() {
        GoldenRows x = new GoldenRows();
        String s = "9: So many days later (0 .. 1000)";
        c.due(s + ": 0", 0, x.later(0));
        c.due(s + ": 1", 1, x.later(1));
        c.due(s + ": 1000", 1001, x.later(1000));
        c.due(s + ": the day", 1001, x.about(0));
        GoldenRows y = Past.lastDay();
        c.due("9: to 100000", LAST_DAY, y.about(0));
        c.due("9: and no further", LAST_DAY, y.later(0));
        c.due("9: a row of the last day", 0, y.row(0));
        c.due("9: a version of the last day", 1, y.set(0, 0, 1, LAST_DAY));
        c.due("9: as known then", 1, y.value(0, 0, LAST_DAY, LAST_DAY));
        c.due("9: not before", NO, y.value(0, 0, LAST_DAY, LAST_DAY - 1));
    }

    private static void laterRefused() {
        lively.refuse("9: NONE, doing nothing, for another number", NO,
            x -> x.later(-1), x -> x.later(1001), x -> x.later(DEEP), x -> x.later(FAR));
        new Twins(c, Past::lastDay).refuse("9: NONE, doing nothing, if it would be above 100000", NO,
            x -> x.later(1), x -> x.later(1000), x -> x.later(FAR));
        GoldenRows x = new GoldenRows();
        for (int i = 0; i < 99; i++) {
            x.later(1000);
        }
        x.later(1);
        c.due("9: NONE if it would be 100001", NO, x.later(1000));
        c.due("9: it did nothing", 99001, x.about(0));
        c.due("9: 100000 can be", LAST_DAY, x.later(999));
    }

    private static void feedEdges() {
        GoldenRows x = new GoldenRows();
        for (int i = 1; i <= 25; i++) {
            c.due("10: how many there are", 20 * i, x.feed(0x20202020, 0x20202020, 0x20202020, 0x20202020, 0x2020203B));
            c.due("10: on the TAPE", 20 * i, x.about(7));
        }
        for (int at = 0; at < 20; at++) {
            int[] w = new int[5];
            for (int i = 0; i < 20; i++) {
                w[i / 4] |= (i == at ? 0x80 : 0x20) << 24 - i % 4 * 8;
            }
            GoldenRows y = new GoldenRows();
            Check.put(y, "  \n");
            y.feed(w[0], w[1], w[2], w[3], w[4]);
            y.rules();
            c.due("10: Twenty bytes behind those on the TAPE, the highest of each first", 3 + at, y.fault(1));
            c.due("10: a byte of 128 is no token", 1, y.fault(0));
        }
        GoldenRows z = new GoldenRows();
        Check.put(z, " ".repeat(480));
        c.due("10: just 500", 500, z.feed(0, 0, 0, 0, 0));
    }

    private static void feedRefused() {
        String s = "10: NONE, and nothing comes, if there would be more than 500";
        new Twins(c, Past::fullTape).refuse(s, NO, x -> x.feed(0, 0, 0, 0, 0), x -> x.feed(-1, -1, -1, -1, -1));
        new Twins(c, () -> {
            GoldenRows x = Past.fullTape();
            x.end(481);
            return x;
        }).refuse(s + " (481)", NO, x -> x.feed(0, 0, 0, 0, 0), x -> x.feed(FAR, DEEP, FAR, DEEP, 1));
    }

    private static void endEdges() {
        GoldenRows x = new GoldenRows();
        String s = "11: The TAPE has its first n bytes";
        Check.put(x, "link 1 when source;?");
        c.due(s + ": all", 20, x.end(20));
        c.due(s + ": one less", 19, x.end(19));
        c.due(s + ": so many", 19, x.about(7));
        c.due(s + ": the first", 1, x.rules());
        Check.put(x, "?");
        c.due(s + ": none", 0, x.end(0));
        c.due(s + ": no bytes", 0, x.about(7));
        c.due(s + ": no text", 0, x.rules());
        c.due(s + ": of an empty tape", 0, x.end(0));
        Check.put(x, "link 1 when source;bar");
        x.end(19);
        c.due(s + ": what comes then is behind them", 39, x.feed(0x20202020, 0x20202020, 0x20202020, 0x20202020, 0x2020203F));
        x.rules();
        c.due(s + ": behind them", 38, x.fault(1));
    }

    private static void endRefused() {
        lively.refuse("11: NONE, doing nothing, if it has not so many", NO,
            x -> x.end(24), x -> x.end(40), x -> x.end(501), x -> x.end(FAR));
        lively.refuse("11: NONE, doing nothing, if n is below 0", NO, x -> x.end(-1), x -> x.end(DEEP));
        new Twins(c, Past::fullTape).refuse("11: of a full tape", NO, x -> x.end(501), x -> x.end(-1));
        new Twins(c, () -> Past.rows(2)).refuse("11: of an empty tape", NO, x -> x.end(1), x -> x.end(20));
    }
}
