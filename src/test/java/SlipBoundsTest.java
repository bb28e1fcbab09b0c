/** Promises 10 to 16, slips: each sentence of theirs that names a boundary. */
public final class SlipBoundsTest extends Checks {

    /** SLIP 0 a PUT of three, 1 a STRIKE of two, 2 a MARK that grows, 3 one that doesn't, 4 an UNDO, 5 a PUT of one. */
    private static ManyPens ofEachKind() {
        ManyPens x = with("abc");
        x.strike(0, 0, 2);
        x.mark(0, 0, 1, 0, 3);
        x.mark(0, 0, 1, 3, 0);
        x.undo(0, 1);
        write(x, 0, 3, "d");
        return x;
    }

    // ---- promise 10

    /** "how many SLIPS there are": none, each one that is made, no more than 256. */
    private static void slipsFromNoneToMost() {
        ManyPens x = new ManyPens();
        due(10, "none", x.slips(), 0);
        write(x, 0, 0, "abc");
        due(10, "a put of three is one", x.slips(), 1);
        x.strike(0, 0, 2);
        due(10, "a strike", x.slips(), 2);
        x.mark(0, 0, 1, 0, 1);
        due(10, "a mark", x.slips(), 3);
        x.undo(0, 1);
        due(10, "an undo", x.slips(), 4);
        write(x, 5, 0, "d");
        due(10, "by all pens together", x.slips(), 5);
        x.carry(4, 0);
        x.all(0, 5);
        x.cursor(0, 0, 0, 0);
        x.part(0, 0);
        due(10, "other acts make none", x.slips(), 5);
        fill(x, 5, 255);
        due(10, "255", x.slips(), 255);
        fill(x, 255, 256);
        due(10, "256", x.slips(), 256);
        x.type(0, 0, 'f', -1, -1);
        due(10, "no more", x.slips(), 256);
    }

    /** A refused ACT makes none. */
    private static void slipsOfRefusedActs() {
        ManyPens x = with("a");
        x.type(0, 2, 'a', -1, -1);
        x.strike(0, 0, 2);
        x.strike(0, 0, -1);
        x.mark(0, 0, 1, 4, 0);
        x.undo(1, 0);
        x.undo(0, 1);
        due(10, "one", x.slips(), 1);
    }

    // ---- promise 11

    /** "NONE: there is no such SLIP" */
    private static void slipOfSlips() {
        ManyPens x = ofEachKind();
        for (int slip : noSlips(6)) {
            for (int what = 0; what < 4; what++) {
                due(11, "no slip " + slip + ", " + what, x.slip(slip, what), NONE);
            }
        }
        due(11, "the first", x.slip(0, 1), 1);
        due(11, "the last", x.slip(5, 1), 6);
        ManyPens y = filled(MOST_SLIPS);
        for (int slip : noSlips(MOST_SLIPS)) {
            due(11, "no slip of 256: " + slip, y.slip(slip, 1), NONE);
        }
        due(11, "the last of 256", y.slip(255, 1), 256);
    }

    /** "another what" */
    private static void slipOfWhats() {
        ManyPens x = ofEachKind();
        for (int slip = 0; slip < 6; slip++) {
            for (int what : outside(0, 3)) {
                due(11, "what " + what + " of slip " + slip, x.slip(slip, what), NONE);
            }
        }
        due(11, "the least what", x.slip(5, 0), 0);
        due(11, "the greatest what", x.slip(5, 3), 1);
        due(11, "neither is there", x.slip(6, 4), NONE);
    }

    /** "its PEN": 0 to 5 */
    private static void slipTellsItsPen() {
        ManyPens x = new ManyPens();
        for (int p = 5; p >= 0; p--) {
            write(x, p, 0, "a");
            due(11, "pen", x.slip(5 - p, 0), p);
        }
    }

    /** "KIND: 0 PUT, 1 STRIKE, 2 MARK, 3 UNDO" */
    private static void slipTellsItsKind() {
        ManyPens x = ofEachKind();
        int[] kinds = {0, 1, 2, 2, 3, 0};
        for (int slip = 0; slip < kinds.length; slip++) {
            due(11, "kind of slip " + slip, x.slip(slip, 2), kinds[slip]);
        }
    }

    /** "how many SIGNS it has (a PUT its own, a STRIKE those struck, a MARK 2, an UNDO 0)" */
    private static void slipTellsItsSigns() {
        ManyPens x = ofEachKind();
        int[] signs = {3, 2, 2, 2, 0, 1};
        for (int slip = 0; slip < signs.length; slip++) {
            due(11, "signs of slip " + slip, x.slip(slip, 3), signs[slip]);
        }
        for (int i = 0; i < 8; i++) {
            write(x, 0, 0, i == 0 ? "xy" : "z");
        }
        due(11, "a put of two", x.slip(6, 3), 2);
        x.strike(0, 0, 1);
        x.strike(0, 0, 12);
        due(11, "a strike of one", x.slip(14, 3), 1);
        due(11, "a strike of twelve", x.slip(15, 3), 12);
        write(x, 0, 0, "abc");
        x.mark(0, 0, 3, 0, 1);
        due(11, "a mark of three places has two", x.slip(17, 3), 2);
    }

    // ---- promise 12

    /** "BEYOND: there is no such SLIP" */
    private static void partOfSlips() {
        ManyPens x = ofEachKind();
        for (int slip : noSlips(6)) {
            refused(12, "no slip " + slip, x, x.part(slip, 0), BEYOND);
        }
        done(12, "the first", x, x.part(0, 0), 0);
        done(12, "the last", x, x.part(5, 0), 20);
        ManyPens y = filled(MOST_SLIPS);
        for (int slip : noSlips(MOST_SLIPS)) {
            refused(12, "no slip of 256: " + slip, y, y.part(slip, 0), BEYOND);
        }
        done(12, "the last of 256", y, y.part(255, 0), 1020);
    }

    /** "KIND: it is an UNDO" */
    private static void partOfKinds() {
        ManyPens x = ofEachKind();
        int[] firsts = {0, 0, 2, 2, NONE, 20};
        for (int slip = 0; slip < firsts.length; slip++) {
            if (slip == 4) {
                refused(12, "an undo", x, x.part(slip, 0), KIND);
            } else {
                done(12, "sign 0 of slip " + slip, x, x.part(slip, 0), firsts[slip]);
            }
        }
    }

    private static void partsFromFirstToLast(ManyPens x, int slip, int... names) {
        for (int i = 0; i < names.length; i++) {
            done(12, "sign " + i + " of slip " + slip, x, x.part(slip, i), names[i]);
        }
        for (int i : outside(0, names.length - 1)) {
            refused(12, "no sign " + i + " of slip " + slip, x, x.part(slip, i), BEYOND);
        }
    }

    /** "BEYOND: it has no SIGN i" */
    private static void partOfEachSign() {
        ManyPens x = ofEachKind();
        partsFromFirstToLast(x, 0, 0, 1, 2);
        partsFromFirstToLast(x, 1, 0, 1);
        partsFromFirstToLast(x, 2, 2, 2);
        partsFromFirstToLast(x, 3, 2, 2);
        partsFromFirstToLast(x, 5, 20);
        write(x, 0, 0, "xy");
        partsFromFirstToLast(x, 6, 24, 25);
        x.mark(0, 0, 6, 0, 1);
        partsFromFirstToLast(x, 7, 24, 20);
    }

    /** "of a STRIKE those struck, in their order": one and twelve of them, of several PUTS. */
    private static void partOfStrikes() {
        ManyPens x = new ManyPens();
        for (int i = 0; i < 4; i++) {
            write(x, 0, 0, "abc");
        }
        x.strike(0, 11, 1);
        partsFromFirstToLast(x, 4, 2);
        x.undo(0, 4);
        x.strike(0, 0, 12);
        partsFromFirstToLast(x, 6, 12, 13, 14, 8, 9, 10, 4, 5, 6, 0, 1, 2);
    }

    // ---- promises 13, 14, 15

    /** "BEYOND: there is no such SLIP; KIND: it is no PUT" */
    private static void leftOfSlips() {
        ManyPens x = ofEachKind();
        for (int slip : noSlips(6)) {
            refused(13, "no slip " + slip, x, x.left(slip), BEYOND);
        }
        for (int slip = 1; slip <= 4; slip++) {
            refused(13, "no put: " + slip, x, x.left(slip), KIND);
        }
        done(13, "the beginning", x, x.left(0), EDGE);
        done(13, "the last slip", x, x.left(5), 2);
        ManyPens y = filled(MOST_SLIPS);
        refused(13, "no slip of 256", y, y.left(256), BEYOND);
        done(13, "the last of 256", y, y.left(255), EDGE);
    }

    /** A LEFT of NAME 0, which is no edge, and the greatest NAME that a LEFT can be. */
    private static void leftOfNames() {
        ManyPens x = with("a");
        write(x, 0, 1, "b");
        done(13, "name 0", x, x.left(1), 0);
        fill(x, 2, 254);
        x.type(0, 0, 'a', 'b', 'c');
        x.type(0, 3, 'd', -1, -1);
        done(13, "the third sign of slip 254", x, x.left(255), 1018);
    }

    /** "-3 if it doesn't GROW"; "BEYOND: there is no such SLIP; KIND: it is no MARK" */
    private static void boundOfSlips() {
        ManyPens x = ofEachKind();
        for (int slip : noSlips(6)) {
            refused(14, "no slip " + slip, x, x.bound(slip), BEYOND);
        }
        for (int slip : new int[] {0, 1, 4, 5}) {
            refused(14, "no mark: " + slip, x, x.bound(slip), KIND);
        }
        done(14, "the end", x, x.bound(2), EDGE);
        done(14, "it does not grow", x, x.bound(3), -3);
        ManyPens y = filled(MOST_SLIPS - 1);
        y.mark(0, 0, 1, 0, 2);
        refused(14, "no slip of 256", y, y.bound(256), BEYOND);
        done(14, "the last of 256", y, y.bound(255), 4 * 253);
    }

    /** A BOUND of NAME 0, which is no edge. */
    private static void boundOfNameZero() {
        ManyPens x = with("a");
        write(x, 0, 0, "b");
        x.mark(0, 0, 1, 0, 2);
        done(14, "name 0", x, x.bound(2), 0);
    }

    /** "BEYOND: there is no such SLIP; KIND: it is no UNDO" */
    private static void undoneOfSlips() {
        ManyPens x = ofEachKind();
        for (int slip : noSlips(6)) {
            refused(15, "no slip " + slip, x, x.undone(slip), BEYOND);
        }
        for (int slip : new int[] {0, 1, 2, 3, 5}) {
            refused(15, "no undo: " + slip, x, x.undone(slip), KIND);
        }
        done(15, "a strike", x, x.undone(4), 1);
        x.undo(0, 0);
        done(15, "slip 0", x, x.undone(6), 0);
        x.undo(0, 6);
        done(15, "an undo", x, x.undone(7), 6);
        ManyPens y = filled(MOST_SLIPS - 1);
        y.undo(0, 254);
        refused(15, "no slip of 256", y, y.undone(256), BEYOND);
        done(15, "the last of 256", y, y.undone(255), 254);
    }

    /** What SLIPS tell of themselves does not hang on whether they WORK or WAIT anywhere. */
    private static void undoneSlipsTellTheSame() {
        ManyPens x = ofEachKind();
        x.undo(0, 2);
        x.undo(0, 4);
        x.undo(0, 0);
        done(14, "a mark that is undone", x, x.bound(2), EDGE);
        done(15, "an undo that is undone", x, x.undone(4), 1);
        done(13, "a put that is undone", x, x.left(0), EDGE);
        done(12, "its sign", x, x.part(0, 2), 2);
    }

    // ---- promise 16

    /** "(false if one isn't there)" */
    private static void laterOfSlips() {
        ManyPens x = with("a");
        write(x, 0, 0, "b");
        for (int slip : noSlips(2)) {
            due(16, "one is not there: " + slip, x.later(slip, 0), false);
            due(16, "the other is not there: " + slip, x.later(1, slip), false);
            due(16, "neither is there: " + slip, x.later(slip, slip), false);
        }
        due(16, "both are there", x.later(1, 0), true);
        due(16, "the other way round", x.later(0, 1), false);
        due(16, "than itself", x.later(1, 1), false);
        ManyPens y = filled(MOST_SLIPS);
        due(16, "the last of 256", y.later(255, 0), true);
        due(16, "the last but one", y.later(255, 254), true);
        due(16, "than one behind the last", y.later(255, 256), false);
        due(16, "one behind the last", y.later(256, 0), false);
    }

    /** "Of two SLIPS that with the greater STAMP is LATER, of equal STAMPS that of the greater PEN." */
    private static void laterByStampThenByPen() {
        ManyPens x = new ManyPens();
        for (int p = 5; p >= 0; p--) {
            write(x, p, 0, "a");
        }
        for (int one = 0; one < 6; one++) {
            for (int other = 0; other < 6; other++) {
                due(16, "pens " + (5 - one) + " and " + (5 - other), x.later(one, other), one < other);
            }
        }
        write(x, 0, 0, "b");
        due(16, "a greater stamp of pen 0", x.later(6, 0), true);
        due(16, "a lower stamp of pen 5", x.later(0, 6), false);
    }

    public static void main(String[] args) {
        slipsFromNoneToMost();
        slipsOfRefusedActs();
        slipOfSlips();
        slipOfWhats();
        slipTellsItsPen();
        slipTellsItsKind();
        slipTellsItsSigns();
        partOfSlips();
        partOfKinds();
        partOfEachSign();
        partOfStrikes();
        leftOfSlips();
        leftOfNames();
        boundOfSlips();
        boundOfNameZero();
        undoneOfSlips();
        undoneSlipsTellTheSame();
        laterOfSlips();
        laterByStampThenByPen();
        end();
    }
}
