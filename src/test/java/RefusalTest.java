/** "Refusals are told in the order in which they are looked for": several that hold at once, of each ACT. */
public final class RefusalTest extends Checks {

    /**
     * 256 SLIPS: 0 a PUT of PEN 1, 1 the UNDO of it, 2 a PUT of PEN 0, 3 the UNDO of it, 4 another PUT of PEN 1,
     * and all others PUTS of PEN 0; PEN 1 has two SIGNS in its TEXT.
     */
    private static ManyPens fullObject() {
        ManyPens x = new ManyPens();
        write(x, 1, 0, "a");
        x.undo(1, 0);
        write(x, 0, 0, "b");
        x.undo(0, 2);
        write(x, 1, 0, "cd");
        fill(x, 5, MOST_SLIPS);
        return x;
    }

    private static void typeWithSeveral() {
        ManyPens x = fullObject();
        refused(2, "no pen, full", x, x.type(6, 0, 'a', -1, -1), BEYOND);
        refused(2, "no pen, no place, no code, full", x, x.type(-1, -1, -1, 256, 256), BEYOND);
        refused(2, "no place below, full", x, x.type(1, -1, 'a', -1, -1), BEYOND);
        refused(2, "no place above, full", x, x.type(1, 3, 'a', -1, -1), BEYOND);
        refused(2, "a is -1, full", x, x.type(1, 0, -1, 'b', 'c'), BEYOND);
        refused(2, "a is no code, full", x, x.type(1, 0, 256, -1, -1), BEYOND);
        refused(2, "b is no code, full", x, x.type(1, 0, 'a', -2, -1), BEYOND);
        refused(2, "c is no code, full", x, x.type(1, 0, 'a', 'b', 256), BEYOND);
        refused(2, "full alone", x, x.type(1, 2, 255, 0, 255), FULL);
        refused(2, "full, what stands behind -1 is not looked at", x, x.type(1, 2, 0, -1, 256), FULL);
    }

    private static void strikeWithSeveral() {
        ManyPens x = fullObject();
        refused(3, "no pen, negative, full", x, x.strike(6, 0, -1), BEYOND);
        refused(3, "no pen, full", x, x.strike(-1, 0, 1), BEYOND);
        refused(3, "negative, from below 0, full", x, x.strike(1, -1, -1), NEGATIVE);
        refused(3, "negative, from behind the end, full", x, x.strike(1, MAX, MIN), NEGATIVE);
        refused(3, "negative, full", x, x.strike(1, 0, -1), NEGATIVE);
        refused(3, "n is 0, full", x, x.strike(1, 0, 0), BEYOND);
        refused(3, "n is 13, full", x, x.strike(0, 0, 13), BEYOND);
        refused(3, "from below 0, full", x, x.strike(1, -1, 1), BEYOND);
        refused(3, "too many, full", x, x.strike(1, 1, 2), BEYOND);
        refused(3, "an empty text, full", x, x.strike(2, 0, 1), BEYOND);
        refused(3, "full alone", x, x.strike(1, 0, 2), FULL);
        refused(3, "full alone, twelve", x, x.strike(0, 0, 12), FULL);
        ManyPens y = with("a");
        refused(3, "no pen, negative", y, y.strike(MAX, 0, MIN), BEYOND);
        refused(3, "negative, no sign", y, y.strike(0, 1, -1), NEGATIVE);
        refused(3, "negative, an empty text", y, y.strike(1, 0, -1), NEGATIVE);
    }

    private static void markWithSeveral() {
        ManyPens x = fullObject();
        refused(4, "no pen, negative, full", x, x.mark(6, 0, -1, 0, 0), BEYOND);
        refused(4, "no pen, full", x, x.mark(-1, 0, 1, 0, 0), BEYOND);
        refused(4, "negative, from below 0, no tint, no how, full", x, x.mark(1, -1, -1, 4, 4), NEGATIVE);
        refused(4, "negative, no tint, full", x, x.mark(1, 0, MIN, -1, 0), NEGATIVE);
        refused(4, "negative, no how, full", x, x.mark(1, 0, -1, 0, -1), NEGATIVE);
        refused(4, "negative, full", x, x.mark(1, 0, -1, 0, 0), NEGATIVE);
        refused(4, "n is 0, full", x, x.mark(1, 0, 0, 0, 0), BEYOND);
        refused(4, "from below 0, full", x, x.mark(1, -1, 1, 0, 0), BEYOND);
        refused(4, "too many, full", x, x.mark(1, 0, 3, 0, 0), BEYOND);
        refused(4, "no tint, full", x, x.mark(1, 0, 1, 4, 0), BEYOND);
        refused(4, "no how, full", x, x.mark(1, 0, 1, 0, 4), BEYOND);
        refused(4, "an empty text, full", x, x.mark(2, 0, 1, 0, 0), BEYOND);
        refused(4, "full alone", x, x.mark(1, 0, 2, 3, 3), FULL);
        ManyPens y = with("a");
        refused(4, "no pen, negative", y, y.mark(MIN, 0, MIN, 0, 0), BEYOND);
        refused(4, "negative, no sign, no tint, no how", y, y.mark(0, 1, -1, 4, 4), NEGATIVE);
        refused(4, "negative, an empty text", y, y.mark(1, 0, -1, 0, 0), NEGATIVE);
    }

    private static void undoWithSeveral() {
        ManyPens x = fullObject();
        refused(5, "no pen, another pen's, does not work, full", x, x.undo(6, 0), BEYOND);
        refused(5, "no pen, no slip, full", x, x.undo(-1, 256), BEYOND);
        refused(5, "no slip, full", x, x.undo(0, 256), BEYOND);
        refused(5, "no slip below, full", x, x.undo(0, -1), BEYOND);
        refused(5, "another pen's, does not work there, full", x, x.undo(0, 0), OTHER);
        refused(5, "another pen's, not got here, full", x, x.undo(2, 4), OTHER);
        refused(5, "another pen's, works there, full", x, x.undo(1, 255), OTHER);
        refused(5, "does not work, full", x, x.undo(0, 2), STILL);
        refused(5, "does not work, full, of pen 1", x, x.undo(1, 0), STILL);
        refused(5, "full alone, a put", x, x.undo(0, 255), FULL);
        refused(5, "full alone, an undo", x, x.undo(1, 1), FULL);
        ManyPens y = with("a");
        y.undo(0, 0);
        y.all(0, 1);
        refused(5, "no pen, no slip", y, y.undo(6, 2), BEYOND);
        refused(5, "another pen's, does not work", y, y.undo(1, 0), OTHER);
        refused(5, "another pen's, not got, does not work", y, y.undo(2, 0), OTHER);
    }

    /** ACTS that make no SLIPS are never refused as FULL. */
    private static void othersWhenFull() {
        ManyPens x = fullObject();
        done(6, "carry", x, x.carry(4, 2), 0);
        done(6, "carry of the lacked ones", x, x.carry(0, 2), 1);
        done(7, "all", x, x.all(1, 3), 3);
        done(12, "part", x, x.part(255, 0), 1020);
        done(13, "left", x, x.left(255), EDGE);
        done(15, "undone", x, x.undone(3), 2);
        done(27, "cursor", x, x.cursor(0, 0, 251, 0), 1);
        refused(6, "carry to no pen, of no slip", x, x.carry(256, 6), BEYOND);
        refused(7, "all of no pen, to no pen", x, x.all(-1, 6), BEYOND);
        refused(14, "bound of a put", x, x.bound(255), KIND);
    }

    private static void partWithSeveral() {
        ManyPens x = with("a");
        x.undo(0, 0);
        refused(12, "no slip, no sign", x, x.part(2, -1), BEYOND);
        refused(12, "an undo, no sign: it has none", x, x.part(1, 0), KIND);
        for (int i : outside(0, 0)) {
            refused(12, "an undo, no sign " + i, x, x.part(1, i), KIND);
            refused(12, "a put, no sign " + i, x, x.part(0, i), BEYOND);
        }
    }

    private static void cursorWithSeveral() {
        ManyPens x = with("a");
        refused(27, "no pen, no cursor, no place, no lean", x, x.cursor(6, 3, 2, 2), BEYOND);
        refused(27, "no cursor, no place, no lean", x, x.cursor(0, -1, -1, -1), BEYOND);
        refused(27, "no place, no lean", x, x.cursor(0, 0, MIN, MAX), BEYOND);
    }

    public static void main(String[] args) {
        typeWithSeveral();
        strikeWithSeveral();
        markWithSeveral();
        undoWithSeveral();
        othersWhenFull();
        partWithSeveral();
        cursorWithSeveral();
        end();
    }
}
