import java.util.ArrayList;
import java.util.List;

/**
 * All that an object can be asked, as one row of answers. The row is made in pieces, each on a new object
 * that goes through the same run, so that no object gets more calls than the document allows.
 */
final class Sight {
    interface Run {
        void on(ManyPens x);
    }

    interface Ask {
        int on(ManyPens x);
    }

    private final List<String> names = new ArrayList<>();
    private final List<Ask> asks = new ArrayList<>();

    /** Asks about these SLIPS and their SIGNS, and these PLACES. */
    Sight(int[] slips, int[] places) {
        add("slips", x -> x.slips());
        for (int p = 0; p < 6; p++) {
            addSheet(p);
            addPlaces(p, places);
            addSlipsAt(p, slips);
        }
        for (int slip : slips) {
            addSlip(slip);
            for (int other : slips) {
                add("later " + slip + " " + other, x -> x.later(slip, other) ? 1 : 0);
            }
        }
    }

    int size() {
        return asks.size();
    }

    String name(int k) {
        return names.get(k);
    }

    Ask ask(int k) {
        return asks.get(k);
    }

    /** The answers behind a run of so many calls. */
    int[] behind(Run run, int calls) {
        int[] answers = new int[asks.size()];
        int step = Checks.MOST_CALLS - calls;
        if (step <= 0) {
            throw new IllegalArgumentException("a run of " + calls + " calls leaves none to ask");
        }
        for (int from = 0; from < answers.length; from += step) {
            ManyPens x = new ManyPens();
            run.on(x);
            int end = Math.min(answers.length, from + step);
            for (int k = from; k < end; k++) {
                answers[k] = asks.get(k).on(x);
            }
        }
        return answers;
    }

    private void add(String name, Ask ask) {
        names.add(name);
        asks.add(ask);
    }

    private void addSheet(int p) {
        add("length " + p, x -> x.length(p));
        add("signs " + p, x -> x.signs(p));
        for (int k = 0; k < 6; k++) {
            int q = k;
            add("unlike " + p + " " + q, x -> x.unlike(p, q));
        }
        for (int k = 0; k < 4; k++) {
            int tint = k;
            add("spans " + p + " " + tint, x -> x.spans(p, tint));
        }
        for (int k = 0; k < 3; k++) {
            int c = k;
            add("where " + p + " " + c, x -> x.where(p, c));
        }
    }

    private void addPlaces(int p, int[] places) {
        for (int i : places) {
            add("order " + p + " " + i, x -> x.order(p, i));
            add("history " + p + " " + i, x -> x.history(p, i));
            for (int k = 0; k < 4; k++) {
                int what = k;
                add("text " + p + " " + i + " " + what, x -> x.text(p, i, what));
                add("asOf " + p + " " + (2 * what) + " " + i, x -> x.asOf(p, 2 * what, i));
            }
        }
    }

    private void addSlipsAt(int p, int[] slips) {
        for (int slip : slips) {
            add("state " + p + " " + slip, x -> x.state(p, slip));
            add("lacks " + p + " " + slip, x -> x.lacks(p, slip));
            for (int k = 0; k < 4; k++) {
                int name = 4 * slip + k;
                add("place " + p + " " + name, x -> x.place(p, name));
                add("strikers " + p + " " + name, x -> x.strikers(p, name));
            }
        }
    }

    /** Some of these are ACTS: they change the status, which is not asked here. */
    private void addSlip(int slip) {
        for (int k = 0; k < 4; k++) {
            int what = k;
            add("slip " + slip + " " + what, x -> x.slip(slip, what));
            add("part " + slip + " " + what, x -> x.part(slip, what));
        }
        add("left " + slip, x -> x.left(slip));
        add("bound " + slip, x -> x.bound(slip));
        add("undone " + slip, x -> x.undone(slip));
    }
}
