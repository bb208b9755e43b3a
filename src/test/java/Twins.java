import java.util.ArrayList;
import java.util.List;
import java.util.function.Supplier;
import java.util.function.ToIntFunction;

/** Two objects with one past: the one that has refused calls since must go on answering as the other does. */
final class Twins {
    private final Check check;
    private final Supplier<GoldenRows> past;

    Twins(Check check, Supplier<GoldenRows> past) {
        this.check = check;
        this.past = past;
    }

    /** Each call, on an object of its own, gives this answer and does nothing. */
    @SafeVarargs
    final void refuse(String sentence, int answer, ToIntFunction<GoldenRows>... calls) {
        List<String> want = picture(past.get());
        for (int i = 0; i < calls.length; i++) {
            GoldenRows x = past.get();
            String name = sentence + " (call " + (i + 1) + ")";
            check.due(name, answer, calls[i].applyAsInt(x));
            compare(name, want, picture(x));
        }
    }

    private void compare(String name, List<String> want, List<String> got) {
        check.due(name + ": as many answers", want.size(), got.size());
        String other = "";
        for (int i = 0; i < Math.min(want.size(), got.size()) && other.isEmpty(); i++) {
            other = want.get(i).equals(got.get(i)) ? "" : got.get(i) + " instead of " + want.get(i);
        }
        check.due(name + " does nothing, but then " + other, true, other.isEmpty());
    }

    static int bit(boolean answer) {
        return answer ? 1 : 0;
    }

    /** All that an object says of today, and last what is on its tape; some 340 calls for ten rows. */
    static List<String> picture(GoldenRows x) {
        List<String> all = new ArrayList<>();
        for (int what = 0; what < 8; what++) {
            all.add("about " + what + " " + x.about(what));
        }
        all.add("fault " + x.fault(0) + " at " + x.fault(1));
        int day = x.about(0);
        all.add("persons " + x.persons(day, day) + " worth " + x.worth(day, day));
        for (int row = 0; row < x.about(1); row++) {
            rowOf(x, row, day, all);
        }
        for (int source = 0; source < 6; source++) {
            changesOf(x, source, all);
        }
        all.add("rules " + x.rules() + " fault " + x.fault(0) + " at " + x.fault(1) + " score " + x.score(0, 1, day, day));
        return all;
    }

    private static void rowOf(GoldenRows x, int row, int day, List<String> all) {
        all.add("person of " + row + " " + x.person(row, day, day) + " score with 0 " + x.score(0, row, day, day));
        for (int field = 0; field < 6; field++) {
            String cell = " of " + row + " " + field + " ";
            all.add("value" + cell + x.value(row, field, 100000, day));
            all.add("golden" + cell + x.golden(row, field, day, day));
            all.add("from" + cell + x.from(row, field, day, day));
            all.add("torn" + cell + x.torn(row, field, day, day));
        }
    }

    private static void changesOf(GoldenRows x, int source, List<String> all) {
        int count = x.changes(source);
        all.add("changes of " + source + " " + count);
        for (int k = 0; k < Math.min(count, 3); k++) {
            all.add("change " + x.change(source, k, 0) + " " + x.change(source, k, 1) + " " + x.change(source, k, 2));
        }
    }
}
