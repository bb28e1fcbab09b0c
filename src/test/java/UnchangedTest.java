/**
 * "An ACT that is refused answers NONE and changes nothing but status()", "ASKS change nothing": all that can
 * be asked is the same with and without them, then and after further acts of all pens.
 */
public final class UnchangedTest extends Checks {
    private static final int[] SLIPS = upTo(28);
    private static final int[] PLACES = upTo(24);
    private static final int[] SOME_SLIPS = {-1, 0, 1, 2, 3, 4, 5, 127, 253, 254, 255, 256};
    private static final int[] SOME_PLACES = {-1, 0, 1, 127, 249, 250, 251, 252, 255, 256};

    /** No run makes more calls than these, so the rest of the 512 may go to asks. */
    private static final int CALLS_TO_FILL = 280;
    private static final int CALLS_OF_STEPS = 80;

    private static int[] upTo(int n) {
        int[] numbers = new int[n + 2];
        for (int i = 0; i < numbers.length; i++) {
            numbers[i] = i - 1;
        }
        return numbers;
    }

    /** An ACT that is refused, with its FINDING. */
    private record Refused(String what, int finding, Sight.Ask act) {
    }

    /** SLIPS of each KIND; some of them wait, some are undone, some SIGNS are struck, and cursors stand. */
    private static final Sight.Run[] STEPS = {
        x -> x.type(0, 0, 'a', 'b', 'c'),
        x -> x.all(0, 1),
        x -> x.type(1, 1, 'X', 'Y', -1),
        x -> x.strike(0, 1, 1),
        x -> x.mark(1, 0, 2, 1, 3),
        x -> x.mark(0, 0, 2, 0, 1),
        x -> x.cursor(0, 0, 2, 0),
        x -> x.cursor(0, 1, 2, 1),
        x -> x.all(1, 0),
        x -> x.undo(0, 2),
        x -> x.type(5, 0, 'z', -1, -1),
        x -> x.undo(5, 6),
        x -> x.cursor(5, 2, 0, 1),
        x -> x.carry(5, 2),
        x -> x.carry(3, 2),
        x -> x.carry(0, 3),
        x -> x.strike(3, 0, 3),
        x -> x.carry(7, 4),
    };
    private static final int MADE = 9;

    /** What each PEN does next, some of it carried where it waits for what that PEN did ahead, then all of it. */
    private static final Sight.Run[] NEXT_STEPS = {
        x -> x.type(0, 0, 'n', -1, -1),
        x -> x.mark(0, 0, 3, 2, 3),
        x -> x.type(1, 2, 'e', 'w', -1),
        x -> x.type(2, 0, 's', -1, -1),
        x -> x.strike(2, 0, 1),
        x -> x.type(3, 0, 't', -1, -1),
        x -> x.undo(3, 8),
        x -> x.type(4, 0, 'u', -1, -1),
        x -> x.undo(5, 7),
        x -> x.carry(9, 3),
        x -> x.carry(11, 3),
        x -> x.carry(14, 4),
        x -> x.carry(17, 3),
        x -> x.carry(1, 2),
        x -> x.all(0, 2),
        x -> x.all(1, 3),
        x -> x.all(5, 4),
        x -> x.all(3, 0),
        x -> x.all(2, 0),
        x -> x.all(4, 0),
        x -> x.mark(0, 1, 3, 3, 1),
        x -> x.strike(0, 0, 4),
        x -> x.undo(0, 5),
        x -> x.all(0, 1),
    };

    private static final Refused[] REFUSED = {
        new Refused("type of no pen", BEYOND, x -> x.type(6, 0, 'q', -1, -1)),
        new Refused("type below the text", BEYOND, x -> x.type(0, -1, 'q', -1, -1)),
        new Refused("type behind the text", BEYOND, x -> x.type(0, 6, 'q', -1, -1)),
        new Refused("type of nothing", BEYOND, x -> x.type(0, 0, -1, 'q', 'q')),
        new Refused("type of no code at last", BEYOND, x -> x.type(0, 0, 'q', 'q', 256)),
        new Refused("strike of no pen", BEYOND, x -> x.strike(-1, 0, 1)),
        new Refused("strike of less than none", NEGATIVE, x -> x.strike(0, 0, -1)),
        new Refused("strike of none", BEYOND, x -> x.strike(0, 0, 0)),
        new Refused("strike of one too many", BEYOND, x -> x.strike(0, 4, 2)),
        new Refused("strike from below 0", BEYOND, x -> x.strike(0, -1, 2)),
        new Refused("strike of thirteen", BEYOND, x -> x.strike(0, 0, 13)),
        new Refused("mark of no pen", BEYOND, x -> x.mark(6, 0, 1, 0, 3)),
        new Refused("mark of less than none", NEGATIVE, x -> x.mark(0, 0, -1, 0, 3)),
        new Refused("mark of none", BEYOND, x -> x.mark(0, 0, 0, 0, 3)),
        new Refused("mark of one too many", BEYOND, x -> x.mark(0, 0, 6, 0, 3)),
        new Refused("mark of no tint", BEYOND, x -> x.mark(0, 0, 5, 4, 3)),
        new Refused("mark of no how", BEYOND, x -> x.mark(0, 0, 5, 0, 4)),
        new Refused("undo of no pen", BEYOND, x -> x.undo(6, 0)),
        new Refused("undo of no slip", BEYOND, x -> x.undo(0, MADE)),
        new Refused("undo of another pen's", OTHER, x -> x.undo(0, 1)),
        new Refused("undo of another pen's, not got", OTHER, x -> x.undo(4, 0)),
        new Refused("undo of what is undone", STILL, x -> x.undo(0, 2)),
        new Refused("carry of no slip", BEYOND, x -> x.carry(MADE, 4)),
        new Refused("carry of no slip below", BEYOND, x -> x.carry(-1, 4)),
        new Refused("carry to no pen", BEYOND, x -> x.carry(0, 6)),
        new Refused("all of no pen", BEYOND, x -> x.all(6, 2)),
        new Refused("all to no pen", BEYOND, x -> x.all(0, -1)),
        new Refused("part of no slip", BEYOND, x -> x.part(MADE, 0)),
        new Refused("part of an undo", KIND, x -> x.part(5, 0)),
        new Refused("part of a sign that is not there", BEYOND, x -> x.part(0, 3)),
        new Refused("left of no slip", BEYOND, x -> x.left(-1)),
        new Refused("left of a strike", KIND, x -> x.left(2)),
        new Refused("bound of no slip", BEYOND, x -> x.bound(MADE)),
        new Refused("bound of a put", KIND, x -> x.bound(0)),
        new Refused("undone of no slip", BEYOND, x -> x.undone(MADE)),
        new Refused("undone of a mark", KIND, x -> x.undone(3)),
        new Refused("cursor of no pen", BEYOND, x -> x.cursor(6, 0, 0, 0)),
        new Refused("cursor of no number", BEYOND, x -> x.cursor(0, 3, 0, 0)),
        new Refused("cursor at no place", BEYOND, x -> x.cursor(0, 0, 6, 0)),
        new Refused("cursor below the text", BEYOND, x -> x.cursor(0, 1, -1, 1)),
        new Refused("cursor of no lean", BEYOND, x -> x.cursor(0, 1, 0, 2)),
        new Refused("cursor that was never told", BEYOND, x -> x.cursor(0, 2, 0, -1)),
    };

    private static final Refused[] REFUSED_WHEN_NEW = {
        new Refused("type behind an empty text", BEYOND, x -> x.type(0, 1, 'q', -1, -1)),
        new Refused("strike of an empty text", BEYOND, x -> x.strike(1, 0, 1)),
        new Refused("strike of less than none of an empty text", NEGATIVE, x -> x.strike(1, 0, -1)),
        new Refused("mark of an empty text", BEYOND, x -> x.mark(2, 0, 1, 0, 3)),
        new Refused("undo where no slips are", BEYOND, x -> x.undo(3, 0)),
        new Refused("carry where no slips are", BEYOND, x -> x.carry(0, 4)),
        new Refused("left where no slips are", BEYOND, x -> x.left(0)),
        new Refused("cursor behind an empty text", BEYOND, x -> x.cursor(5, 0, 1, 0)),
    };

    private static final Refused[] REFUSED_WHEN_FULL = {
        new Refused("type when full", FULL, x -> x.type(0, 0, 'q', 'q', 'q')),
        new Refused("type of another pen when full", FULL, x -> x.type(4, 0, 'q', -1, -1)),
        new Refused("strike when full", FULL, x -> x.strike(0, 0, 12)),
        new Refused("mark when full", FULL, x -> x.mark(0, 0, 2, 0, 3)),
        new Refused("undo of a put when full", FULL, x -> x.undo(0, 255)),
        new Refused("undo of an undo when full", FULL, x -> x.undo(0, 5)),
        new Refused("undo of what is undone when full", STILL, x -> x.undo(0, 2)),
        new Refused("undo of another pen's when full", OTHER, x -> x.undo(1, 255)),
        new Refused("undo of no slip when full", BEYOND, x -> x.undo(0, 256)),
        new Refused("carry of no slip when full", BEYOND, x -> x.carry(256, 1)),
    };

    private static void steps(ManyPens x, Sight.Run[] steps) {
        for (Sight.Run step : steps) {
            step.on(x);
        }
    }

    private static void fillAndCarry(ManyPens x) {
        steps(x, STEPS);
        fill(x, MADE, MOST_SLIPS);
        x.carry(255, 4);
    }

    private static void same(String what, Sight sight, int[] got, int[] want) {
        int differ = 0;
        for (int k = 0; k < want.length && differ < 5; k++) {
            if (got[k] != want[k]) {
                due(TERMS, what + ": " + sight.name(k), got[k], want[k]);
                differ++;
            }
        }
        due(TERMS, what + ": so many answers differ", differ, 0);
    }

    /** The refused ACT stands between two runs: what is to be asked behind the second is as without it. */
    private static void leaves(Refused[] acts, Sight.Run first, Sight.Run second, Sight sight, int calls) {
        int[] without = sight.behind(x -> {
            first.on(x);
            second.on(x);
        }, calls);
        for (Refused refused : acts) {
            ManyPens alone = new ManyPens();
            first.on(alone);
            refused(TERMS, refused.what, alone, refused.act.on(alone), refused.finding);
            int[] with = sight.behind(x -> {
                first.on(x);
                refused.act.on(x);
                second.on(x);
            }, calls);
            same(refused.what, sight, with, without);
        }
    }

    /** No step of the runs is refused, so that they make what they seem to make. */
    private static void stepsAreDone() {
        ManyPens x = new ManyPens();
        for (Sight.Run[] steps : new Sight.Run[][] {STEPS, NEXT_STEPS}) {
            for (int i = 0; i < steps.length; i++) {
                steps[i].on(x);
                due(TERMS, "step " + i, x.status(), FINE);
            }
        }
    }

    private static void refusedActsLeaveAll() {
        Sight sight = new Sight(SLIPS, PLACES);
        Sight.Run first = x -> steps(x, STEPS);
        leaves(REFUSED, first, x -> { }, sight, CALLS_OF_STEPS);
        leaves(REFUSED, first, x -> steps(x, NEXT_STEPS), sight, CALLS_OF_STEPS);
    }

    private static void refusedActsLeaveANewObject() {
        Sight sight = new Sight(SLIPS, PLACES);
        leaves(REFUSED_WHEN_NEW, x -> { }, x -> { }, sight, CALLS_OF_STEPS);
        leaves(REFUSED_WHEN_NEW, x -> { }, x -> steps(x, STEPS), sight, CALLS_OF_STEPS);
    }

    private static void refusedActsLeaveAFullObject() {
        Sight sight = new Sight(SOME_SLIPS, SOME_PLACES);
        leaves(REFUSED_WHEN_FULL, x -> fillAndCarry(x), x -> { }, sight, CALLS_TO_FILL);
        leaves(REFUSED_WHEN_FULL, x -> fillAndCarry(x), x -> x.all(0, 3), sight, CALLS_TO_FILL);
    }

    private static boolean isAct(String name) {
        return name.startsWith("part") || name.startsWith("left")
                || name.startsWith("bound") || name.startsWith("undone");
    }

    /** Between any two steps some ASKS are asked, other ones each time: a row of them that goes round. */
    private static void stepsAmongAsks(ManyPens x, Sight.Run[] steps, Sight asks, int start) {
        int k = start;
        for (Sight.Run step : steps) {
            for (int i = 0; i < 10; i++) {
                k = (k + 37) % asks.size();
                if (!isAct(asks.name(k))) {
                    int before = x.status();
                    asks.ask(k).on(x);
                    due(29, asks.name(k) + ", an ask, leaves the status", x.status(), before);
                }
            }
            step.on(x);
        }
    }

    private static void asksLeaveAll() {
        Sight sight = new Sight(SLIPS, PLACES);
        Sight asks = new Sight(new int[] {-1, 0, 1, 5, 8, 9, 255, 256, MAX}, new int[] {MIN, -1, 0, 1, 2, 5, 9, MAX});
        Sight.Run[] steps = {STEPS[0], STEPS[1], STEPS[2], STEPS[3], STEPS[4], x -> x.undo(1, 0), STEPS[8], STEPS[9]};
        int[] without = sight.behind(x -> steps(x, steps), 8);
        for (int start = 0; start < 37; start++) {
            int from = start;
            same("asks from " + start + " on", sight,
                    sight.behind(x -> stepsAmongAsks(x, steps, asks, from), 248), without);
        }
    }

    /** Each ASK in each way, right behind a refused ACT: its FINDING stays. */
    private static void asksLeaveTheFinding() {
        Sight asks = new Sight(new int[] {-1, 0, 2, 3, 5, 7, 8, 9, 256}, new int[] {-1, 0, 4, 5});
        ManyPens x = new ManyPens();
        int calls = MOST_CALLS;
        for (int k = 0; k < asks.size(); k++) {
            if (calls > MOST_CALLS - 4) {
                x = new ManyPens();
                steps(x, STEPS);
                x.left(2);
                calls = STEPS.length + 1;
            }
            if (!isAct(asks.name(k))) {
                asks.ask(k).on(x);
                due(29, "the status behind " + asks.name(k), x.status(), KIND);
                calls += 2;
            }
        }
        ManyPens y = with("a");
        y.left(1);
        for (int p : NO_PENS) {
            y.length(p);
            y.text(p, 0, 0);
            y.signs(p);
            y.order(p, 0);
            y.place(p, 0);
            y.strikers(p, 0);
            y.spans(p, 0);
            y.history(p, 0);
            y.asOf(p, 1, 0);
            y.unlike(p, 0);
            y.where(p, 0);
            y.state(p, 0);
            y.lacks(p, 0);
            due(29, "asks of no pen " + p, y.status(), BEYOND);
        }
        y.text(0, 0, 4);
        y.slip(0, 4);
        y.spans(0, 4);
        y.where(0, 3);
        due(29, "asks of no what, no tint, no cursor", y.status(), BEYOND);
        y.left(0);
        y.length(6);
        y.slip(1, 0);
        y.later(1, 1);
        due(29, "asks that answer NONE are no refusals", y.status(), FINE);
    }

    public static void main(String[] args) {
        stepsAreDone();
        refusedActsLeaveAll();
        refusedActsLeaveANewObject();
        refusedActsLeaveAFullObject();
        asksLeaveAll();
        asksLeaveTheFinding();
        end();
    }
}
