import java.util.ArrayList;
import java.util.HashSet;
import java.util.List;
import java.util.Set;
import java.util.regex.Matcher;
import java.util.regex.Pattern;

/** What the document says, in the slowest and plainest way: nothing is kept but what was told. */
final class PlainModel {
    record Row(int source, int told) { }

    record Version(int row, int field, int value, int day, int told, boolean echo) { }

    record Refusal(int row, int field, int value) { }

    interface Test {
        boolean holds(int a, int b, int d, int k);
    }

    record Line(int number, Test test) { }

    static final class ByHand {
        int a;
        int b;
        int c;
        int told;
        Integer untold;

        boolean holds(int k) {
            return told <= k && !(untold != null && untold <= k);
        }
    }

    static final class Fault extends Exception {
        final int kind;
        final int place;

        Fault(int kind, int place) {
            this.kind = kind;
            this.place = place;
        }
    }

    int day = 0;
    final int[][] trust = new int[6][6];
    final int[] fade = new int[6];
    final int[] rights = new int[6];
    final List<Row> rows = new ArrayList<>();
    final Set<Integer> forgotten = new HashSet<>();
    final List<Version> versions = new ArrayList<>();
    final List<ByHand> hands = new ArrayList<>();
    final List<ByHand> fixes = new ArrayList<>();
    final List<Refusal> refused = new ArrayList<>();
    String tape = "";
    List<Line> lines = new ArrayList<>();
    int faultKind = 0;
    int faultPlace = -1;

    PlainModel() {
        for (int[] t : trust) {
            java.util.Arrays.fill(t, 1);
        }
    }

    static boolean in(int x, int least, int greatest) {
        return least <= x && x <= greatest;
    }

    boolean alive(int row) {
        return in(row, 0, rows.size() - 1) && !forgotten.contains(row);
    }

    boolean there(int row, int k) {
        return alive(row) && rows.get(row).told <= k;
    }

    boolean trust(int s, int f, int t) {
        boolean ok = in(s, 0, 5) && in(f, 0, 5) && in(t, 0, 9);
        if (ok) {
            trust[s][f] = t;
        }
        return ok;
    }

    boolean fade(int f, int v) {
        boolean ok = in(f, 0, 5) && in(v, 0, 50);
        if (ok) {
            fade[f] = v;
        }
        return ok;
    }

    boolean rights(int s, int f) {
        boolean ok = in(s, 0, 5) && in(f, 0, 63);
        if (ok) {
            rights[s] = f;
        }
        return ok;
    }

    int row(int s) {
        if (!in(s, 0, 5) || rows.size() == 10) {
            return -1;
        }
        rows.add(new Row(s, day));
        return rows.size() - 1;
    }

    int set(int r, int f, int v, int from) {
        if (!alive(r) || !in(f, 0, 5) || !in(v, 0, 999999) || !in(from, 0, 100000) || versions.size() == 150) {
            return -1;
        }
        versions.add(new Version(r, f, v, from, day, false));
        return versions.size();
    }

    Version version(int r, int f, int d, int k) {
        if (!alive(r)) {
            return null;
        }
        Version best = null;
        for (Version v : versions) {
            if (v.row == r && v.field == f && v.told <= k && v.day <= d && (best == null || v.day >= best.day)) {
                best = v;
            }
        }
        return best;
    }

    int value(int r, int f, int d, int k) {
        Version v = version(r, f, d, k);
        return v == null ? -1 : v.value;
    }

    boolean forget(int r) {
        return in(r, 0, rows.size() - 1) && forgotten.add(r);
    }

    int later(int days) {
        if (!in(days, 0, 1000) || day + days > 100000) {
            return -1;
        }
        day += days;
        return day;
    }

    int feed(int... words) {
        if (tape.length() > 480) {
            return -1;
        }
        StringBuilder b = new StringBuilder(tape);
        for (int w : words) {
            b.append((char) (w >>> 24)).append((char) (w >> 16 & 255)).append((char) (w >> 8 & 255)).append((char) (w & 255));
        }
        tape = b.toString();
        return tape.length();
    }

    int end(int n) {
        if (!in(n, 0, tape.length())) {
            return -1;
        }
        tape = tape.substring(0, n);
        return n;
    }

    int rules() {
        String text = tape;
        tape = "";
        try {
            lines = new Text(text).lines();
            faultKind = 0;
            faultPlace = -1;
            return lines.size();
        } catch (Fault fault) {
            faultKind = fault.kind;
            faultPlace = fault.place;
            return -1;
        }
    }

    int fault(int what) {
        return what == 0 ? faultKind : what == 1 ? faultPlace : -1;
    }

    /** Tokens by patterns first, then the grammar. */
    final class Text {
        final List<String> tokens = new ArrayList<>();
        final List<Integer> places = new ArrayList<>();
        int at = 0;
        int tests = 0;

        Text(String text) {
            Matcher m = Pattern.compile("([a-z]+)|([0-9]+[a-z]?)|([;()])").matcher(text);
            int i = 0;
            while (true) {
                while (i < text.length() && (text.charAt(i) == ' ' || text.charAt(i) == '\n')) {
                    i++;
                }
                if (i == text.length()) {
                    add("", i);
                    return;
                }
                if (!m.find(i) || m.start() != i || !m.group().matches("[a-z]{1,8}|[0-9]{1,6}|[;()]")) {
                    add("?", i);
                    return;
                }
                add(m.group(), i);
                i = m.end();
            }
        }

        void add(String token, int place) {
            tokens.add(token);
            places.add(place);
        }

        String token() {
            return tokens.get(at);
        }

        Fault fault(int kind) {
            return new Fault(token().equals("?") ? 1 : kind, places.get(at));
        }

        void take(String... ones) throws Fault {
            for (String one : ones) {
                if (token().equals(one)) {
                    at++;
                    return;
                }
            }
            throw fault(2);
        }

        int number(int least, int greatest) throws Fault {
            if (!token().matches("[0-9]+")) {
                throw fault(2);
            }
            int n = Integer.parseInt(token());
            if (!in(n, least, greatest)) {
                throw fault(3);
            }
            at++;
            return n;
        }

        List<Line> lines() throws Fault {
            List<Line> found = new ArrayList<>();
            while (!token().isEmpty()) {
                if (found.size() == 10) {
                    throw fault(2);
                }
                String word = token();
                take("link", "bar");
                int n = number(1, 1000);
                take("when");
                Test e = e(0);
                take(";");
                found.add(new Line(word.equals("link") ? n : -n, e));
            }
            return found;
        }

        Test e(int within) throws Fault {
            Test left = both(within);
            while (token().equals("or")) {
                at++;
                Test one = left;
                Test other = both(within);
                left = (a, b, d, k) -> one.holds(a, b, d, k) | other.holds(a, b, d, k);
            }
            return left;
        }

        Test both(int within) throws Fault {
            Test left = one(within);
            while (token().equals("and")) {
                at++;
                Test one = left;
                Test other = one(within);
                left = (a, b, d, k) -> one.holds(a, b, d, k) & other.holds(a, b, d, k);
            }
            return left;
        }

        Test one(int within) throws Fault {
            if (within == 8) {
                throw fault(2);
            }
            switch (token()) {
                case "not": {
                    at++;
                    Test e = one(within + 1);
                    return (a, b, d, k) -> !e.holds(a, b, d, k);
                }
                case "(": {
                    at++;
                    Test e = e(within + 1);
                    take(")");
                    return e;
                }
                case "source":
                    test();
                    return (a, b, d, k) -> rows.get(a).source == rows.get(b).source;
                case "lacks": {
                    test();
                    int f = number(0, 5);
                    return (a, b, d, k) -> value(a, f, d, k) < 0 || value(b, f, d, k) < 0;
                }
                case "same": {
                    test();
                    int f = number(0, 5);
                    return (a, b, d, k) -> value(a, f, d, k) >= 0 && value(a, f, d, k) == value(b, f, d, k);
                }
                case "near": {
                    test();
                    int f = number(0, 5);
                    int n = number(0, 999999);
                    return (a, b, d, k) -> value(a, f, d, k) >= 0 && value(b, f, d, k) >= 0
                        && Math.abs(value(a, f, d, k) - value(b, f, d, k)) <= n;
                }
                default:
                    throw fault(2);
            }
        }

        void test() throws Fault {
            if (tests == 60) {
                throw fault(2);
            }
            tests++;
            at++;
        }
    }

    int score(int a, int b, int d, int k) {
        if (a == b || !there(a, k) || !there(b, k)) {
            return 0;
        }
        int sum = 0;
        for (Line line : lines) {
            if (line.test.holds(a, b, d, k)) {
                sum += line.number;
            }
        }
        return sum;
    }

    int tell(List<ByHand> list, int a, int b, int c) {
        ByHand h = new ByHand();
        h.a = a;
        h.b = b;
        h.c = c;
        h.told = day;
        list.add(h);
        return list.size() - 1;
    }

    boolean untell(List<ByHand> list, int number) {
        if (!in(number, 0, list.size() - 1) || list.get(number).untold != null) {
            return false;
        }
        list.get(number).untold = day;
        return true;
    }

    int hand(int a, int b, boolean must) {
        return a == b || !alive(a) || !alive(b) || hands.size() == 20 ? -1 : tell(hands, a, b, must ? 1 : 0);
    }

    boolean unhand(int h) {
        return untell(hands, h);
    }

    /** Tries every parting, the first ones first; null if hands quarrel. */
    final class Best {
        final List<Integer> members = new ArrayList<>();
        final int[][] scores;
        final List<ByHand> held = new ArrayList<>();
        final int[] now;
        int[] best;
        int worth;

        Best(int d, int k) {
            for (int r = 0; r < rows.size(); r++) {
                if (there(r, k)) {
                    members.add(r);
                }
            }
            int n = members.size();
            scores = new int[n][n];
            for (int i = 0; i < n; i++) {
                for (int j = 0; j < n; j++) {
                    scores[i][j] = score(members.get(i), members.get(j), d, k);
                }
            }
            for (ByHand h : hands) {
                if (h.holds(k) && alive(h.a) && alive(h.b)) {
                    held.add(h);
                }
            }
            now = new int[n];
            place(0, 0);
        }

        void place(int i, int persons) {
            if (i == now.length) {
                look();
                return;
            }
            for (int p = persons; p >= 0; p--) {
                now[i] = p;
                place(i + 1, Math.max(persons, p + 1));
            }
        }

        void look() {
            for (ByHand h : held) {
                if ((now[members.indexOf(h.a)] == now[members.indexOf(h.b)]) != (h.c == 1)) {
                    return;
                }
            }
            int sum = 0;
            for (int i = 0; i < now.length; i++) {
                for (int j = 0; j < i; j++) {
                    sum += now[i] == now[j] ? scores[i][j] : 0;
                }
            }
            if (best == null || sum > worth) {
                best = now.clone();
                worth = sum;
            }
        }

        int person(int row) {
            int i = members.indexOf(row);
            return best == null || i < 0 ? -1 : best[i];
        }

        int persons() {
            int most = 0;
            for (int p : best) {
                most = Math.max(most, p + 1);
            }
            return most;
        }
    }

    int persons(int d, int k) {
        Best best = new Best(d, k);
        return best.best == null ? -2 : best.persons();
    }

    int worth(int d, int k) {
        Best best = new Best(d, k);
        return best.best == null ? -2000000 : best.worth;
    }

    int person(int row, int d, int k) {
        return new Best(d, k).person(row);
    }

    long weight(Version v, int d) {
        return Math.max(0, 100L * trust[rows.get(v.row).source][v.field] - (long) fade[v.field] * ((long) d - v.day));
    }

    /** The versions that speak in a field for a person. */
    List<Version> speakers(Best best, int person, int f, int d, int k) {
        List<Version> found = new ArrayList<>();
        for (int r : best.members) {
            Version v = version(r, f, d, k);
            if (best.person(r) == person && v != null && !v.echo) {
                found.add(v);
            }
        }
        return found;
    }

    /** Golden value, from, torn; null without a person. */
    int[] verdict(Best best, int row, int f, int d, int k) {
        int person = best.person(row);
        if (person < 0 || !in(f, 0, 5)) {
            return null;
        }
        List<Version> all = speakers(best, person, f, d, k);
        Set<Integer> values = new HashSet<>();
        int golden = -1;
        long bestSum = -1;
        int bestDay = -1;
        for (Version v : all) {
            values.add(v.value);
        }
        for (int value : values) {
            long sum = all.stream().filter(v -> v.value == value).mapToLong(v -> weight(v, d)).sum();
            int latest = all.stream().filter(v -> v.value == value).mapToInt(v -> v.day).max().getAsInt();
            if (sum > bestSum || sum == bestSum && (latest > bestDay || latest == bestDay && value < golden)) {
                golden = value;
                bestSum = sum;
                bestDay = latest;
            }
        }
        int from = -1;
        long heaviest = -1;
        for (Version v : all) {
            if (v.value == golden && weight(v, d) > heaviest) {
                heaviest = weight(v, d);
                from = v.row;
            }
        }
        for (ByHand fix : fixes) {
            if (fix.holds(k) && fix.b == f && best.person(fix.a) == person) {
                golden = fix.c;
                from = -2;
            }
        }
        return new int[] {golden, from, values.size()};
    }

    int asked(int row, int f, int d, int k, int what) {
        int[] verdict = verdict(new Best(d, k), row, f, d, k);
        return verdict == null ? -1 : verdict[what];
    }

    int fix(int r, int f, int v) {
        return !alive(r) || !in(f, 0, 5) || !in(v, 0, 999999) || fixes.size() == 20 ? -1 : tell(fixes, r, f, v);
    }

    boolean unfix(int fix) {
        return untell(fixes, fix);
    }

    List<Refusal> wishes(int s) {
        List<Refusal> found = new ArrayList<>();
        if (!in(s, 0, 5)) {
            return found;
        }
        Best best = new Best(day, day);
        for (int r = 0; r < rows.size(); r++) {
            for (int f = 0; f < 6; f++) {
                int[] verdict = rows.get(r).source == s && (rights[s] & 1 << f) != 0 ? verdict(best, r, f, day, day) : null;
                if (verdict != null && verdict[0] >= 0 && verdict[0] != value(r, f, day, day)) {
                    Refusal wish = new Refusal(r, f, verdict[0]);
                    if (!refused.contains(wish)) {
                        found.add(wish);
                    }
                }
            }
        }
        return found;
    }

    int changes(int s) {
        return in(s, 0, 5) ? wishes(s).size() : -1;
    }

    int change(int s, int k, int what) {
        List<Refusal> w = wishes(s);
        if (!in(k, 0, w.size() - 1)) {
            return -1;
        }
        Refusal r = w.get(k);
        return what == 0 ? r.row : what == 1 ? r.field : what == 2 ? r.value : -1;
    }

    boolean accept(int s, int k) {
        List<Refusal> w = wishes(s);
        if (!in(k, 0, w.size() - 1) || versions.size() == 150) {
            return false;
        }
        Refusal r = w.get(k);
        versions.add(new Version(r.row, r.field, r.value, day, day, true));
        return true;
    }

    boolean refuse(int s, int k) {
        List<Refusal> w = wishes(s);
        if (!in(k, 0, w.size() - 1) || refused.size() == 60) {
            return false;
        }
        refused.add(w.get(k));
        return true;
    }

    int about(int what) {
        int[] all = {day, rows.size(), versions.size(), hands.size(), fixes.size(), lines.size(), refused.size(), tape.length()};
        return in(what, 0, 7) ? all[what] : -1;
    }
}
