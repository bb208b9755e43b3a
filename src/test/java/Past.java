/** Objects that tests begin with. */
final class Past {
    private Past() { }

    /** So many rows of source 0, told on day 0. */
    static GoldenRows rows(int count) {
        GoldenRows x = new GoldenRows();
        for (int i = 0; i < count; i++) {
            x.row(0);
        }
        return x;
    }

    /** One person by hands 0, 1, ..: its rows are of sources 0, 1, .. and have these values in field 0 from day 0 on. */
    static GoldenRows person(int... values) {
        GoldenRows x = new GoldenRows();
        for (int i = 0; i < values.length; i++) {
            x.row(i % 6);
            x.set(i, 0, values[i], 0);
            if (i > 0) {
                x.hand(0, i, true);
            }
        }
        return x;
    }

    /**
     * Day 7. Rows 0 .. 5 of sources 0 .. 5 are one person's that is torn in every field, row 6 is alone, row 7
     * forgotten. There are rules, hands and fixes (one of each untold), rights, a refusal, and a text on the tape.
     */
    static GoldenRows lively() {
        GoldenRows x = new GoldenRows();
        for (int row = 0; row < 8; row++) {
            x.row(row % 6);
        }
        for (int row = 0; row < 6; row++) {
            for (int field = 0; field < 6; field++) {
                x.set(row, field, 100 * field + 50 - row, field == row ? 3 : 0);
            }
            x.rights(row, 1 << (row + 1) % 6 | 1);
            x.hand(0, row, true);
        }
        x.hand(6, 0, true);
        x.fix(0, 0, 900);
        x.fix(1, 0, 901);
        x.later(7);
        x.unhand(5);
        x.unfix(1);
        x.fade(2, 5);
        x.trust(4, 4, 2);
        x.forget(7);
        Check.rules(x, "link 3 when source; bar 2 when lacks 0;");
        x.refuse(2, 0);
        Check.put(x, "link 9 when not source;");
        return x;
    }

    /** The last day, 100000. */
    static GoldenRows lastDay() {
        GoldenRows x = new GoldenRows();
        for (int i = 0; i < 100; i++) {
            x.later(1000);
        }
        return x;
    }

    /** Two rows that are one person's, with 150 versions, and a change that waits for source 1. */
    static GoldenRows fullOfVersions() {
        GoldenRows x = person(5, 6);
        x.rights(1, 1);
        for (int i = 2; i < 150; i++) {
            x.set(i % 2, 1 + i % 5, i, i);
        }
        return x;
    }

    /** Three rows and 20 hands, the last of them untold. */
    static GoldenRows fullOfHands() {
        GoldenRows x = rows(3);
        for (int i = 0; i < 20; i++) {
            x.hand(0, 1, i < 19);
        }
        x.unhand(19);
        return x;
    }

    /** Two rows and 20 fixes, the last of them untold. */
    static GoldenRows fullOfFixes() {
        GoldenRows x = rows(2);
        for (int i = 0; i < 20; i++) {
            x.fix(0, 0, i);
        }
        x.unfix(19);
        return x;
    }

    /** Ten rows of source 0 that are one person's, 60 refusals, and then a fix that makes ten changes more. */
    static GoldenRows fullOfRefusals() {
        GoldenRows x = rows(10);
        for (int i = 1; i < 10; i++) {
            x.hand(0, i, true);
        }
        for (int field = 0; field < 6; field++) {
            x.fix(0, field, field);
        }
        x.rights(0, 63);
        for (int i = 0; i < 60; i++) {
            x.refuse(0, 0);
        }
        x.fix(0, 5, 100);
        return x;
    }

    /** A good text of 500 bytes on the tape. */
    static GoldenRows fullTape() {
        GoldenRows x = rows(2);
        Check.put(x, "link 7 when source;" + " ".repeat(462) + "bar 4 when lacks 3;");
        return x;
    }
}
