import java.util.ArrayList;
import java.util.List;
import java.util.Random;
import java.util.TreeSet;

/** Random runs of at most 512 calls, each answer against a slow model that follows the document's words. */
public final class ModelTest {
    private static final int CALLS = 512;

    private static final class Slip {
        int number;
        int pen;
        int stamp;
        int kind;
        int prior = -1;
        int left = -2;
        int bound = -3;
        int undone = -1;
        int tint;
        boolean on;
        List<Integer> codes = new ArrayList<>();
        List<Integer> signs = new ArrayList<>();

        TreeSet<Integer> needs() {
            TreeSet<Integer> needs = new TreeSet<>();
            needs.add(prior);
            needs.add(undone);
            needs.add(left < 0 ? -1 : left >> 2);
            needs.add(bound < 0 ? -1 : bound >> 2);
            if (kind != 0) {
                for (int sign : signs) {
                    needs.add(sign >> 2);
                }
            }
            needs.remove(-1);
            return needs;
        }
    }

    /** What a SHEET shows by a set of SLIPS that are TAKEN. */
    private static final class Show {
        final List<Slip> slips;
        final TreeSet<Integer> taken;
        final List<Integer> order = new ArrayList<>();
        final List<Integer> text = new ArrayList<>();
        final Boolean[] works = new Boolean[256];

        Show(List<Slip> slips, TreeSet<Integer> taken) {
            this.slips = slips;
            this.taken = taken;
            behind(-2);
            for (int name : order) {
                if (works(name >> 2) && strikers(name) == 0) {
                    text.add(name);
                }
            }
        }

        void behind(int x) {
            List<Slip> puts = new ArrayList<>();
            for (int t : taken) {
                if (slips.get(t).kind == 0 && slips.get(t).left == x) {
                    puts.add(slips.get(t));
                }
            }
            puts.sort((one, other) -> later(one, other) ? -1 : 1);
            for (Slip put : puts) {
                for (int sign : put.signs) {
                    order.add(sign);
                    behind(sign);
                }
            }
        }

        boolean works(int slip) {
            if (works[slip] == null) {
                boolean answer = taken.contains(slip);
                for (int t : taken) {
                    answer = answer && !(slips.get(t).kind == 3 && slips.get(t).undone == slip && works(t));
                }
                works[slip] = answer;
            }
            return works[slip];
        }

        int strikers(int name) {
            int n = 0;
            for (int t : taken) {
                if (slips.get(t).kind == 1 && slips.get(t).signs.contains(name) && works(t)) {
                    n++;
                }
            }
            return n;
        }

        boolean covers(Slip mark, int name) {
            int at = order.indexOf(name);
            int last = order.indexOf(mark.signs.get(1));
            if (order.indexOf(mark.signs.get(0)) <= at && at <= last) {
                return true;
            }
            return mark.bound != -3 && at > last && (mark.bound == -2 || at < order.indexOf(mark.bound));
        }

        int tints(int name) {
            int sum = 0;
            for (int tint = 0; tint < 4; tint++) {
                Slip latest = null;
                for (int t : taken) {
                    Slip mark = slips.get(t);
                    if (mark.kind == 2 && mark.tint == tint && works(t) && covers(mark, name)
                            && (latest == null || later(mark, latest))) {
                        latest = mark;
                    }
                }
                sum += latest != null && latest.on ? 1 << tint : 0;
            }
            return sum;
        }
    }

    private static boolean later(Slip one, Slip other) {
        return one.stamp > other.stamp || one.stamp == other.stamp && one.pen > other.pen;
    }

    private static final class Model {
        final List<Slip> slips = new ArrayList<>();
        final List<TreeSet<Integer>> got = new ArrayList<>();
        final Show[] shows = new Show[6];
        final int[][] beside = new int[6][3];
        final int[][] leans = new int[6][3];
        int status = 0;

        Model() {
            for (int p = 0; p < 6; p++) {
                got.add(new TreeSet<>());
                leans[p] = new int[] {-1, -1, -1};
            }
        }

        /** As many as can be: what is GOT, less what NEEDS something that isn't among it. */
        TreeSet<Integer> taken(int p) {
            TreeSet<Integer> taken = new TreeSet<>(got.get(p));
            while (taken.removeIf(t -> !taken.containsAll(slips.get(t).needs()))) {
                continue;
            }
            return taken;
        }

        Show show(int p) {
            if (shows[p] == null) {
                shows[p] = new Show(slips, taken(p));
            }
            return shows[p];
        }

        boolean pen(int p) {
            return 0 <= p && p <= 5;
        }

        boolean there(int slip) {
            return 0 <= slip && slip < slips.size();
        }

        int refuse(int finding) {
            status = finding;
            return -1;
        }

        int done(int answer) {
            status = 0;
            return answer;
        }

        Slip make(int p, int kind) {
            Slip slip = new Slip();
            slip.number = slips.size();
            slip.pen = p;
            slip.kind = kind;
            slip.stamp = 1;
            for (int t : show(p).taken) {
                slip.stamp = Math.max(slip.stamp, slips.get(t).stamp + 1);
            }
            for (Slip other : slips) {
                slip.prior = other.pen == p ? other.number : slip.prior;
            }
            return slip;
        }

        int enter(Slip slip) {
            slips.add(slip);
            got.get(slip.pen).add(slip.number);
            shows[slip.pen] = null;
            return done(slip.number);
        }

        int type(int p, int place, int a, int b, int c) {
            if (!pen(p) || place < 0 || place > show(p).text.size() || a == -1) {
                return refuse(1);
            }
            List<Integer> codes = new ArrayList<>();
            for (int code : new int[] {a, b, c}) {
                if (code == -1) {
                    break;
                }
                if (code < 0 || code > 255) {
                    return refuse(1);
                }
                codes.add(code);
            }
            if (slips.size() == 256) {
                return refuse(2);
            }
            Slip put = make(p, 0);
            put.left = place == 0 ? -2 : show(p).text.get(place - 1);
            put.codes = codes;
            for (int i = 0; i < codes.size(); i++) {
                put.signs.add(4 * put.number + i);
            }
            return enter(put);
        }

        boolean stretch(int p, int from, int n) {
            return from >= 0 && (long) from + n <= show(p).text.size();
        }

        int strike(int p, int from, int n) {
            if (!pen(p)) {
                return refuse(1);
            }
            if (n < 0) {
                return refuse(5);
            }
            if (n < 1 || n > 12 || !stretch(p, from, n)) {
                return refuse(1);
            }
            if (slips.size() == 256) {
                return refuse(2);
            }
            Slip strike = make(p, 1);
            strike.signs = new ArrayList<>(show(p).text.subList(from, from + n));
            return enter(strike);
        }

        int mark(int p, int from, int n, int tint, int how) {
            if (!pen(p)) {
                return refuse(1);
            }
            if (n < 0) {
                return refuse(5);
            }
            if (n == 0 || !stretch(p, from, n) || tint < 0 || tint > 3 || how < 0 || how > 3) {
                return refuse(1);
            }
            if (slips.size() == 256) {
                return refuse(2);
            }
            Slip mark = make(p, 2);
            mark.tint = tint;
            mark.on = how == 1 || how == 3;
            int last = show(p).text.get(from + n - 1);
            mark.signs.add(show(p).text.get(from));
            mark.signs.add(last);
            if (how >= 2) {
                int next = show(p).order.indexOf(last) + 1;
                mark.bound = next == show(p).order.size() ? -2 : show(p).order.get(next);
            }
            return enter(mark);
        }

        int undo(int p, int slip) {
            if (!pen(p) || !there(slip)) {
                return refuse(1);
            }
            if (slips.get(slip).pen != p) {
                return refuse(3);
            }
            if (!show(p).works(slip)) {
                return refuse(4);
            }
            if (slips.size() == 256) {
                return refuse(2);
            }
            Slip undo = make(p, 3);
            undo.undone = slip;
            return enter(undo);
        }

        int get(int p, TreeSet<Integer> more) {
            int before = show(p).taken.size();
            got.get(p).addAll(more);
            shows[p] = null;
            return done(show(p).taken.size() - before);
        }

        int carry(int slip, int p) {
            if (!pen(p) || !there(slip)) {
                return refuse(1);
            }
            TreeSet<Integer> one = new TreeSet<>();
            one.add(slip);
            return get(p, one);
        }

        int all(int from, int to) {
            return pen(from) && pen(to) ? get(to, show(from).taken) : refuse(1);
        }

        int state(int p, int slip) {
            if (!pen(p) || !there(slip)) {
                return -1;
            }
            if (!got.get(p).contains(slip)) {
                return 0;
            }
            return show(p).works(slip) ? 3 : show(p).taken.contains(slip) ? 2 : 1;
        }

        int lacks(int p, int slip) {
            if (state(p, slip) != 1) {
                return -1;
            }
            TreeSet<Integer> missing = slips.get(slip).needs();
            missing.removeAll(show(p).taken);
            return missing.first();
        }

        int slip(int slip, int what) {
            if (!there(slip) || what < 0 || what > 3) {
                return -1;
            }
            Slip s = slips.get(slip);
            return new int[] {s.pen, s.stamp, s.kind, s.signs.size()}[what];
        }

        int part(int slip, int i) {
            if (!there(slip)) {
                return refuse(1);
            }
            if (slips.get(slip).kind == 3) {
                return refuse(6);
            }
            if (i < 0 || i >= slips.get(slip).signs.size()) {
                return refuse(1);
            }
            return done(slips.get(slip).signs.get(i));
        }

        int ofKind(int slip, int kind) {
            if (!there(slip)) {
                return refuse(1);
            }
            Slip s = slips.get(slip);
            if (s.kind != kind) {
                return refuse(6);
            }
            return done(kind == 0 ? s.left : kind == 2 ? s.bound : s.undone);
        }

        int text(int p, int i, int what) {
            if (!pen(p) || i < 0 || i >= show(p).text.size()) {
                return -1;
            }
            int name = show(p).text.get(i);
            switch (what) {
                case 0: return slips.get(name >> 2).codes.get(name & 3);
                case 1: return name;
                case 2: return show(p).tints(name);
                case 3: return slips.get(name >> 2).pen;
                default: return -1;
            }
        }

        int order(int p, int i) {
            return pen(p) && i >= 0 && i < show(p).order.size() ? show(p).order.get(i) : -1;
        }

        int place(int p, int name) {
            if (!pen(p) || !show(p).order.contains(name)) {
                return -3;
            }
            return show(p).text.contains(name) ? show(p).text.indexOf(name) : -2;
        }

        int strikers(int p, int name) {
            return pen(p) && show(p).order.contains(name) ? show(p).strikers(name) : -1;
        }

        int spans(int p, int tint) {
            if (!pen(p) || tint < 0 || tint > 3) {
                return -1;
            }
            StringBuilder row = new StringBuilder("0");
            for (int name : show(p).text) {
                row.append(show(p).tints(name) >> tint & 1);
            }
            return row.toString().split("01", -1).length - 1;
        }

        int history(int p, int i) {
            if (!pen(p) || i < 0 || i >= show(p).taken.size()) {
                return -1;
            }
            List<Integer> taken = new ArrayList<>(show(p).taken);
            taken.sort((one, other) -> later(slips.get(one), slips.get(other)) ? 1 : -1);
            return taken.get(i);
        }

        int asOf(int p, int stamp, int i) {
            if (!pen(p)) {
                return -1;
            }
            TreeSet<Integer> old = new TreeSet<>(show(p).taken);
            old.removeIf(t -> slips.get(t).stamp > stamp);
            Show then = new Show(slips, old);
            if (i < 0 || i >= then.text.size()) {
                return -1;
            }
            int name = then.text.get(i);
            return slips.get(name >> 2).codes.get(name & 3);
        }

        int unlike(int p, int q) {
            if (!pen(p) || !pen(q)) {
                return -1;
            }
            if (show(p).taken.equals(show(q).taken)) {
                return 0;
            }
            int most = Math.min(show(p).text.size(), show(q).text.size());
            int i = 0;
            while (i < most && text(p, i, 1) == text(q, i, 1) && text(p, i, 2) == text(q, i, 2)) {
                i++;
            }
            return i + 1;
        }

        int cursor(int p, int c, int place, int lean) {
            if (!pen(p) || c < 0 || c > 2 || place < 0 || place > show(p).text.size() || lean < 0 || lean > 1) {
                return refuse(1);
            }
            int i = lean == 0 ? place - 1 : place;
            beside[p][c] = i < 0 || i == show(p).text.size() ? -2 : show(p).text.get(i);
            leans[p][c] = lean;
            return done(1);
        }

        int where(int p, int c) {
            if (!pen(p) || c < 0 || c > 2 || leans[p][c] == -1) {
                return -1;
            }
            Show show = show(p);
            int at = show.order.indexOf(beside[p][c]);
            if (leans[p][c] == 0) {
                for (int k = at; k >= 0; k--) {
                    if (show.text.contains(show.order.get(k))) {
                        return 1 + show.text.indexOf(show.order.get(k));
                    }
                }
                return 0;
            }
            for (int k = at; at >= 0 && k < show.order.size(); k++) {
                if (show.text.contains(show.order.get(k))) {
                    return show.text.indexOf(show.order.get(k));
                }
            }
            return show.text.size();
        }
    }

    /** Chooses the arguments of a run: most of them good, some of them wrong. */
    private static final class Dice {
        final Random random;
        final Model model;
        final int pens;
        final int wild;

        Dice(Random random, Model model) {
            this.random = random;
            this.model = model;
            this.pens = 1 + random.nextInt(6);
            this.wild = random.nextInt(4) == 0 ? 10 : 60;
        }

        int below(int n) {
            if (random.nextInt(wild) == 0) {
                int[] odd = {-1, -2, -3, n, n + 1, Integer.MIN_VALUE, Integer.MAX_VALUE, 256, 1024};
                return odd[random.nextInt(odd.length)];
            }
            return random.nextInt(Math.max(1, n));
        }

        int pen() {
            int p = below(pens);
            return p == pens && pens < 6 ? 6 : p;
        }

        int length(int p) {
            return model.pen(p) ? model.show(p).text.size() : 3;
        }

        int place(int p) {
            return below(length(p) + 1);
        }

        int slip() {
            int n = model.slips.size();
            return random.nextBoolean() ? below(n) : Math.max(-1, n - 1 - below(8));
        }

        int slipOf(int p) {
            for (int i = 0; i < 20; i++) {
                int slip = slip();
                if (model.there(slip) && model.slips.get(slip).pen == p) {
                    return slip;
                }
            }
            return slip();
        }

        int name() {
            return 4 * below(model.slips.size()) + below(3);
        }

        int code() {
            return random.nextInt(4) == 0 ? -1 : below(256);
        }
    }

    private static long calls = 0;
    private static int wrong = 0;

    private static void compare(int run, int call, String what, int got, int want) {
        calls++;
        if (got != want) {
            wrong++;
            if (wrong <= 20) {
                System.out.println("run " + run + ", call " + call + ": " + what + " answered " + got + ", due is " + want);
            }
        }
    }

    private static String said(String name, int... arguments) {
        return name + java.util.Arrays.toString(arguments);
    }

    private static void act(int run, int call, ManyPens x, Model m, Dice d, int kind) {
        int p = d.pen();
        int a = d.place(p);
        int b = 1 + d.below(kind == 1 ? 4 : 8);
        int c = d.below(4);
        int e = d.below(4);
        int s = kind == 3 ? d.slipOf(p) : d.slip();
        int q = d.pen();
        int k1 = d.below(256);
        int k2 = d.code();
        int k3 = d.code();
        switch (kind) {
            case 0: compare(run, call, said("type", p, a, k1, k2, k3), x.type(p, a, k1, k2, k3), m.type(p, a, k1, k2, k3)); break;
            case 1: compare(run, call, said("strike", p, a, b), x.strike(p, a, b), m.strike(p, a, b)); break;
            case 2: compare(run, call, said("mark", p, a, b, c, e), x.mark(p, a, b, c, e), m.mark(p, a, b, c, e)); break;
            case 3: compare(run, call, said("undo", p, s), x.undo(p, s), m.undo(p, s)); break;
            case 4: compare(run, call, said("carry", s, p), x.carry(s, p), m.carry(s, p)); break;
            case 5: compare(run, call, said("all", p, q), x.all(p, q), m.all(p, q)); break;
            case 6: compare(run, call, said("part", s, c), x.part(s, c), m.part(s, c)); break;
            case 7: compare(run, call, said("left", s), x.left(s), m.ofKind(s, 0)); break;
            case 8: compare(run, call, said("bound", s), x.bound(s), m.ofKind(s, 2)); break;
            case 9: compare(run, call, said("undone", s), x.undone(s), m.ofKind(s, 3)); break;
            default:
                int lean = d.below(2);
                int cursor = d.below(3);
                compare(run, call, said("cursor", p, cursor, a, lean), x.cursor(p, cursor, a, lean), m.cursor(p, cursor, a, lean));
        }
    }

    private static void ask(int run, int call, ManyPens x, Model m, Dice d, int kind) {
        int p = d.pen();
        int q = d.pen();
        int s = d.slip();
        int t = d.slip();
        int i = d.place(p);
        int n = d.name();
        int w = d.below(4);
        int c = d.below(3);
        switch (kind) {
            case 0: compare(run, call, said("state", p, s), x.state(p, s), m.state(p, s)); break;
            case 1: compare(run, call, said("lacks", p, s), x.lacks(p, s), m.lacks(p, s)); break;
            case 2: compare(run, call, said("slips"), x.slips(), m.slips.size()); break;
            case 3: compare(run, call, said("slip", s, w), x.slip(s, w), m.slip(s, w)); break;
            case 4:
                boolean later = m.there(s) && m.there(t) && later(m.slips.get(s), m.slips.get(t));
                compare(run, call, said("later", s, t), x.later(s, t) ? 1 : 0, later ? 1 : 0);
                break;
            case 5: compare(run, call, said("length", p), x.length(p), m.pen(p) ? m.show(p).text.size() : -1); break;
            case 6: compare(run, call, said("text", p, i, w), x.text(p, i, w), m.text(p, i, w)); break;
            case 7: compare(run, call, said("signs", p), x.signs(p), m.pen(p) ? m.show(p).order.size() : -1); break;
            case 8: compare(run, call, said("order", p, i), x.order(p, i), m.order(p, i)); break;
            case 9: compare(run, call, said("place", p, n), x.place(p, n), m.place(p, n)); break;
            case 10: compare(run, call, said("strikers", p, n), x.strikers(p, n), m.strikers(p, n)); break;
            case 11: compare(run, call, said("spans", p, w), x.spans(p, w), m.spans(p, w)); break;
            case 12: compare(run, call, said("history", p, i), x.history(p, i), m.history(p, i)); break;
            case 13:
                int stamp = d.below(m.slips.size() / 2 + 2);
                compare(run, call, said("asOf", p, stamp, i), x.asOf(p, stamp, i), m.asOf(p, stamp, i));
                break;
            case 14: compare(run, call, said("unlike", p, q), x.unlike(p, q), m.unlike(p, q)); break;
            case 15: compare(run, call, said("where", p, c), x.where(p, c), m.where(p, c)); break;
            default: compare(run, call, said("status"), x.status(), m.status);
        }
    }

    /** How often each act is chosen, for runs of different tempers. */
    private static final int[][] TEMPERS = {
        {6, 2, 2, 2, 8, 2, 1, 1, 1, 1, 2},
        {8, 1, 6, 2, 4, 2, 0, 0, 1, 0, 0},
        {4, 2, 1, 8, 8, 1, 0, 0, 0, 1, 0},
        {12, 0, 0, 1, 12, 0, 0, 1, 0, 0, 2},
        {5, 4, 3, 3, 0, 6, 1, 1, 1, 1, 4},
    };

    private static int weighed(Random random, int[] weights) {
        int sum = 0;
        for (int weight : weights) {
            sum += weight;
        }
        int at = random.nextInt(sum);
        int kind = 0;
        while (at >= weights[kind]) {
            at -= weights[kind];
            kind++;
        }
        return kind;
    }

    private static void run(int run) {
        Random random = new Random(run);
        ManyPens x = new ManyPens();
        Model m = new Model();
        Dice d = new Dice(random, m);
        int[] temper = TEMPERS[random.nextInt(TEMPERS.length)];
        int length = random.nextInt(8) == 0 ? CALLS : 40 + random.nextInt(160);
        int acts = 30 + random.nextInt(65);
        for (int call = 0; call < length; call++) {
            if (random.nextInt(100) < acts) {
                act(run, call, x, m, d, weighed(random, temper));
            } else {
                ask(run, call, x, m, d, random.nextInt(17));
            }
        }
    }

    public static void main(String[] args) {
        int runs = args.length > 0 ? Integer.parseInt(args[0]) : 3000;
        for (int run = 0; run < runs && wrong == 0; run++) {
            run(run);
        }
        System.out.println(calls + " random calls looked at, " + wrong + " not as due");
        if (wrong != 0) {
            System.exit(1);
        }
    }
}
