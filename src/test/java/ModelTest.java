import java.util.Random;

/** Random runs of calls: the class and the plain model answer alike. */
public final class ModelTest {
    private static final int RUNS = Integer.getInteger("runs", 1200);
    private static final int MOST_CALLS = 500;
    private static final String[] WORDS = {"link", "bar", "when", "or", "and", "not", "same", "near", "lacks", "source",
        "(", ")", ";", "0", "5", "6", "1", "1000", "1001", "999999", "1234567", "x", "abcdefgh", "abcdefghi", "?", "\n", "1a"};

    private final Check check;
    private final Random random;
    private final GoldenRows x = new GoldenRows();
    private final PlainModel m = new PlainModel();
    private final int run;
    private final int mostRows;
    private final int fields;
    private final int values;
    private int calls;

    private ModelTest(Check check, int run) {
        this.check = check;
        this.run = run;
        random = new Random(run);
        // Ten rows have 115,975 partings, so the plain model gets them seldom.
        mostRows = run % 60 == 0 ? 10 : run % 10 == 0 ? 7 : 2 + random.nextInt(4);
        fields = 1 + random.nextInt(6);
        values = 2 + random.nextInt(5);
    }

    public static void main(String[] args) {
        Check check = new Check("ModelTest");
        for (int run = 0; run < RUNS && check.wrongOnes() == 0; run++) {
            new ModelTest(check, run).go();
        }
        check.close();
    }

    private void go() {
        int most = mostRows > 7 ? 90 : mostRows > 5 ? 200 : MOST_CALLS - 60;
        calls = 0;
        while (calls < most && check.wrongOnes() == 0) {
            calls++;
            if (random.nextInt(100) < 45) {
                tell();
            } else {
                ask();
            }
        }
    }

    private void due(String call, int want, int got) {
        check.due("run " + run + " call " + calls + " " + call, want, got);
    }

    private void due(String call, boolean want, boolean got) {
        check.due("run " + run + " call " + calls + " " + call, want, got);
    }

    /** Mostly 0 .. below - 1, now and then one off, or far off. */
    private int about(int below) {
        int dice = random.nextInt(60);
        if (dice == 0) {
            return -1;
        }
        if (dice == 1) {
            return below;
        }
        if (dice == 2) {
            return new int[] {Integer.MAX_VALUE, Integer.MIN_VALUE, 100, -100}[random.nextInt(4)];
        }
        return random.nextInt(Math.max(1, below));
    }

    private int row() {
        return about(m.rows.size());
    }

    private int field() {
        return about(random.nextInt(8) == 0 ? 6 : fields);
    }

    private int value() {
        int dice = random.nextInt(40);
        return dice == 0 ? 999999 : dice == 1 ? 1000000 : dice == 2 ? -1 : random.nextInt(values);
    }

    private int dayAbout() {
        int dice = random.nextInt(40);
        if (dice == 0) {
            return -1;
        }
        if (dice == 1) {
            return Integer.MAX_VALUE;
        }
        return Math.max(0, m.day + 2 - random.nextInt(Math.max(1, Math.min(m.day + 2, 12))));
    }

    private void tell() {
        int dice = random.nextInt(100);
        int a = row();
        int f = field();
        int v = value();
        int s = about(6);
        if (m.rows.size() < mostRows && dice < 25) {
            s = random.nextInt(3) == 0 ? s : random.nextInt(2);
            due("row " + s, m.row(s), x.row(s));
        } else if (dice < 60) {
            int from = dayAbout();
            due("set " + a + " " + f + " " + v + " " + from, m.set(a, f, v, from), x.set(a, f, v, from));
        } else if (dice < 66) {
            boolean must = random.nextBoolean();
            int b = row();
            due("hand " + a + " " + b + " " + must, m.hand(a, b, must), x.hand(a, b, must));
        } else if (dice < 70) {
            int h = about(m.hands.size());
            due("unhand " + h, m.unhand(h), x.unhand(h));
        } else if (dice < 73) {
            due("fix " + a + " " + f + " " + v, m.fix(a, f, v), x.fix(a, f, v));
        } else if (dice < 76) {
            int h = about(m.fixes.size());
            due("unfix " + h, m.unfix(h), x.unfix(h));
        } else if (dice < 80) {
            int t = random.nextInt(12) - 1;
            due("trust " + s + " " + f + " " + t, m.trust(s, f, t), x.trust(s, f, t));
        } else if (dice < 83) {
            int t = random.nextInt(3) == 0 ? random.nextInt(54) - 1 : random.nextInt(20);
            due("fade " + f + " " + t, m.fade(f, t), x.fade(f, t));
        } else if (dice < 87) {
            int bits = random.nextInt(66) - 1;
            due("rights " + s + " " + bits, m.rights(s, bits), x.rights(s, bits));
        } else if (dice < 91) {
            int days = random.nextInt(8) == 0 ? random.nextInt(1200) - 100 : random.nextInt(4);
            due("later " + days, m.later(days), x.later(days));
        } else if (dice < 92) {
            if (random.nextInt(4) == 0) {
                due("forget " + a, m.forget(a), x.forget(a));
            }
        } else if (dice < 96) {
            putRules();
        } else {
            answerChange(s);
        }
    }

    private void answerChange(int source) {
        int k = about(Math.max(1, m.wishes(source).size()));
        if (random.nextBoolean()) {
            due("accept " + source + " " + k, m.accept(source, k), x.accept(source, k));
        } else {
            due("refuse " + source + " " + k, m.refuse(source, k), x.refuse(source, k));
        }
    }

    private void ask() {
        int dice = random.nextInt(100);
        int a = row();
        int f = field();
        int d = dayAbout();
        int k = random.nextInt(3) == 0 ? m.day : dayAbout();
        String when = " on " + d + " as known on " + k;
        if (dice < 12) {
            due("value " + a + " " + f + when, m.value(a, f, d, k), x.value(a, f, d, k));
        } else if (dice < 24) {
            int b = row();
            due("score " + a + " " + b + when, m.score(a, b, d, k), x.score(a, b, d, k));
        } else if (dice < 32) {
            due("persons" + when, m.persons(d, k), x.persons(d, k));
        } else if (dice < 40) {
            due("worth" + when, m.worth(d, k), x.worth(d, k));
        } else if (dice < 48) {
            due("person " + a + when, m.person(a, d, k), x.person(a, d, k));
        } else if (dice < 58) {
            due("golden " + a + " " + f + when, m.asked(a, f, d, k, 0), x.golden(a, f, d, k));
        } else if (dice < 68) {
            due("from " + a + " " + f + when, m.asked(a, f, d, k, 1), x.from(a, f, d, k));
        } else if (dice < 78) {
            due("torn " + a + " " + f + when, m.asked(a, f, d, k, 2), x.torn(a, f, d, k));
        } else if (dice < 84) {
            int s = about(6);
            due("changes " + s, m.changes(s), x.changes(s));
        } else if (dice < 92) {
            int s = random.nextInt(3) == 0 ? about(6) : random.nextInt(2);
            int i = about(4);
            int what = about(3);
            due("change " + s + " " + i + " " + what, m.change(s, i, what), x.change(s, i, what));
        } else {
            int what = about(8);
            due("about " + what, m.about(what), x.about(what));
            what = about(2);
            due("fault " + what, m.fault(what), x.fault(what));
            calls++;
        }
    }

    private void putRules() {
        String text = random.nextInt(3) == 0 ? spoiled(someRules()) : someRules();
        byte[] b = Check.bytes(text.length() > 500 ? text.substring(0, 500) : text);
        int fed = Math.max(0, m.about(7));
        for (int i = 0; i < b.length; i += 20) {
            int[] w = new int[5];
            for (int j = 0; j < 5; j++) {
                w[j] = Check.word(b, i + 4 * j);
            }
            due("feed", m.feed(w), x.feed(w[0], w[1], w[2], w[3], w[4]));
            calls++;
        }
        int n = random.nextInt(10) == 0 ? about(fed + b.length) : fed + b.length;
        due("end " + n, m.end(n), x.end(n));
        if (random.nextInt(12) != 0) {
            String name = "rules '" + text + "'";
            due(name, m.rules(), x.rules());
            due(name + " fault", m.fault(0), x.fault(0));
            due(name + " place", m.fault(1), x.fault(1));
            due(name + " lines", m.about(5), x.about(5));
        }
        calls += 5;
    }

    private String someRules() {
        StringBuilder b = new StringBuilder();
        int lines = random.nextInt(5) == 0 ? random.nextInt(12) : 1 + random.nextInt(4);
        for (int i = 0; i < lines; i++) {
            b.append(random.nextBoolean() ? "link " : "bar ").append(1 + random.nextInt(random.nextInt(4) == 0 ? 1000 : 5));
            b.append(blank()).append("when ");
            e(b, random.nextInt(10) == 0 ? 10 : 3);
            b.append(';').append(random.nextBoolean() ? "" : blank());
        }
        return b.toString();
    }

    private String blank() {
        return random.nextInt(4) == 0 ? "\n" : " ";
    }

    private void e(StringBuilder b, int deep) {
        one(b, deep);
        for (int i = random.nextInt(4); i > 2; i--) {
            b.append(random.nextBoolean() ? " or " : " and ");
            one(b, deep);
        }
    }

    private void one(StringBuilder b, int deep) {
        int dice = random.nextInt(deep > 3 ? 24 : 12);
        if (deep > 0 && (dice < 3 || dice > 17)) {
            b.append(random.nextBoolean() ? "not " : "not\n");
            one(b, deep - 1);
        } else if (deep > 0 && (dice < 6 || dice > 11)) {
            b.append('(');
            e(b, deep - 1);
            b.append(')');
        } else if (dice < 8) {
            b.append("same ").append(random.nextInt(fields));
        } else if (dice < 10) {
            b.append("near ").append(random.nextInt(fields)).append(' ').append(random.nextInt(values));
        } else if (dice < 11) {
            b.append("lacks").append(random.nextInt(fields));
        } else {
            b.append("source");
        }
    }

    /** A text with a word more, a byte less, or a byte changed. */
    private String spoiled(String text) {
        StringBuilder b = new StringBuilder(text);
        for (int i = 1 + random.nextInt(2); i > 0; i--) {
            int at = random.nextInt(b.length() + 1);
            int dice = random.nextInt(4);
            if (dice == 0 || at == b.length()) {
                b.insert(at, " " + WORDS[random.nextInt(WORDS.length)] + " ");
            } else if (dice == 1) {
                b.insert(at, WORDS[random.nextInt(WORDS.length)]);
            } else if (dice == 2) {
                b.deleteCharAt(at);
            } else {
                b.setCharAt(at, (char) random.nextInt(256));
            }
        }
        return b.toString();
    }
}
