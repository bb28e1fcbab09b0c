/** Promises 1 to 5, a new object and what pens do: each sentence of theirs that names a boundary. */
public final class PenBoundsTest extends Checks {

    // ---- promise 1

    /** "Empty SHEETS" */
    private static void newSheetsAreEmpty() {
        ManyPens x = new ManyPens();
        for (int p = 0; p < 6; p++) {
            due(1, "length", x.length(p), 0);
            due(1, "signs", x.signs(p), 0);
            due(1, "order", x.order(p, 0), NONE);
            due(1, "history", x.history(p, 0), NONE);
            due(1, "asOf", x.asOf(p, MAX, 0), NONE);
            due(1, "place", x.place(p, 0), -3);
            due(1, "strikers", x.strikers(p, 0), NONE);
            for (int k = 0; k < 4; k++) {
                due(1, "text", x.text(p, 0, k), NONE);
                due(1, "spans", x.spans(p, k), 0);
            }
            for (int q = 0; q < 6; q++) {
                due(1, "unlike", x.unlike(p, q), 0);
                done(1, "all", x, x.all(p, q), 0);
            }
        }
    }

    /** "no SLIPS" */
    private static void newObjectHasNoSlips() {
        ManyPens x = new ManyPens();
        due(1, "slips", x.slips(), 0);
        due(1, "later", x.later(0, 0), false);
        for (int k = 0; k < 4; k++) {
            due(1, "slip", x.slip(0, k), NONE);
        }
        refused(1, "part", x, x.part(0, 0), BEYOND);
        refused(1, "left", x, x.left(0), BEYOND);
        refused(1, "bound", x, x.bound(0), BEYOND);
        refused(1, "undone", x, x.undone(0), BEYOND);
        for (int p = 0; p < 6; p++) {
            due(1, "state", x.state(p, 0), NONE);
            due(1, "lacks", x.lacks(p, 0), NONE);
            refused(1, "carry", x, x.carry(0, p), BEYOND);
            refused(1, "undo", x, x.undo(p, 0), BEYOND);
        }
        due(1, "the first slip is 0", write(x, 3, 0, "a"), 0);
    }

    /** "no cursors" */
    private static void newObjectHasNoCursors() {
        ManyPens x = new ManyPens();
        for (int p = 0; p < 6; p++) {
            for (int c = 0; c < 3; c++) {
                due(1, "where", x.where(p, c), NONE);
            }
        }
    }

    private static void objectsShareNothing() {
        ManyPens x = with("abc");
        ManyPens y = new ManyPens();
        x.cursor(0, 0, 3, 0);
        y.left(0);
        due(1, "slips of another object", y.slips(), 0);
        due(1, "length of another object", y.length(0), 0);
        due(1, "cursor of another object", y.where(0, 0), NONE);
        due(1, "finding of another object", x.status(), FINE);
        due(1, "its own text", x.length(0), 3);
    }

    // ---- promise 2

    /** "BEYOND: there is no such PEN" */
    private static void typeOfPens() {
        ManyPens x = new ManyPens();
        done(2, "pen 0", x, x.type(0, 0, 'a', -1, -1), 0);
        done(2, "pen 5", x, x.type(5, 0, 'a', -1, -1), 1);
        for (int p : NO_PENS) {
            refused(2, "no pen " + p, x, x.type(p, 0, 'a', -1, -1), BEYOND);
        }
        due(2, "two were made", x.slips(), 2);
    }

    /** "place is not 0 to the TEXT's length" */
    private static void typeAtPlaces() {
        ManyPens x = new ManyPens();
        for (int place : outside(0, 0)) {
            refused(2, "empty text, place " + place, x, x.type(0, place, 'a', -1, -1), BEYOND);
        }
        done(2, "empty text, place 0", x, x.type(0, 0, 'a', 'b', 'c'), 0);
        for (int place : outside(0, 3)) {
            refused(2, "place " + place, x, x.type(0, place, 'a', -1, -1), BEYOND);
        }
        done(2, "the length", x, x.type(0, 3, 'd', -1, -1), 1);
        done(2, "0", x, x.type(0, 0, 'X', -1, -1), 2);
        dueText(2, "both", x, 0, "Xabcd");
    }

    /** "the TEXT's length": of SEEN SIGNS, not of those in ORDER, and of the PEN's own SHEET. */
    private static void typeAtPlacesOfWhatIsSeen() {
        ManyPens x = with("abc");
        x.strike(0, 1, 2);
        refused(2, "behind the seen ones", x, x.type(0, 2, 'd', -1, -1), BEYOND);
        refused(2, "another sheet is empty", x, x.type(1, 1, 'd', -1, -1), BEYOND);
        done(2, "behind the last seen one", x, x.type(0, 1, 'd', -1, -1), 2);
        due(2, "left is a seen sign", x.left(2), 0);
        x.strike(0, 0, 2);
        refused(2, "all are struck", x, x.type(0, 1, 'e', -1, -1), BEYOND);
        done(2, "all are struck, place 0", x, x.type(0, 0, 'e', -1, -1), 4);
        due(2, "left is the beginning though signs stand there", x.left(4), EDGE);
        dueOrder(2, "ahead of the struck ones", x, 0, 16, 0, 8, 1, 2);
    }

    /** "LEFT is the SIGN at PLACE place - 1 of its TEXT, the BEGINNING if place is 0" */
    private static void typeHasItsLeft() {
        ManyPens x = with("abc");
        for (int place = 0; place <= 3; place++) {
            ManyPens y = with("abc");
            write(y, 0, place, "X");
            due(2, "left at place " + place, y.left(1), place == 0 ? EDGE : place - 1);
        }
        x.strike(0, 1, 1);
        write(x, 0, 2, "X");
        due(2, "left is at a place, not at a spot in order", x.left(2), 2);
    }

    /** "a is -1" */
    private static void typeOfNothing() {
        ManyPens x = new ManyPens();
        refused(2, "all are -1", x, x.type(0, 0, -1, -1, -1), BEYOND);
        refused(2, "b is a code", x, x.type(0, 0, -1, 'b', -1), BEYOND);
        refused(2, "b and c are codes", x, x.type(0, 0, -1, 'b', 'c'), BEYOND);
        refused(2, "c is a code", x, x.type(0, 0, -1, -1, 'c'), BEYOND);
        due(2, "none was made", x.slips(), 0);
    }

    /** "one of those CODES is not 0 to 255" */
    private static void typeOfCodes() {
        int[] noCodes = {MIN, -3, -2, 256, 257, MAX};
        ManyPens x = new ManyPens();
        for (int code : noCodes) {
            refused(2, "a is " + code, x, x.type(0, 0, code, -1, -1), BEYOND);
            refused(2, "a of three is " + code, x, x.type(0, 0, code, 'b', 'c'), BEYOND);
            refused(2, "b is " + code, x, x.type(0, 0, 'a', code, -1), BEYOND);
            refused(2, "b of three is " + code, x, x.type(0, 0, 'a', code, 'c'), BEYOND);
            refused(2, "c is " + code, x, x.type(0, 0, 'a', 'b', code), BEYOND);
        }
        due(2, "none was made", x.slips(), 0);
        done(2, "the least", x, x.type(0, 0, 0, 0, 0), 0);
        done(2, "the greatest", x, x.type(0, 3, 255, 255, 255), 1);
        for (int i = 0; i < 6; i++) {
            due(2, "code " + i, x.text(0, i, 0), i < 3 ? 0 : 255);
        }
    }

    /** "SIGNS with the CODES a, b, c ahead of the first that is -1" */
    private static void typeUpToTheFirstNone() {
        ManyPens x = new ManyPens();
        for (int c : new int[] {MIN, -2, -1, 0, 255, 256, MAX}) {
            int slip = x.slips();
            done(2, "behind -1 stands " + c, x, x.type(0, 0, 'a', -1, c), slip);
            due(2, "one sign", x.slip(slip, 3), 1);
        }
        due(2, "one sign each", x.length(0), 7);
        x.type(0, 0, 'a', 'b', -1);
        due(2, "two signs", x.slip(7, 3), 2);
        x.type(0, 0, 'a', 'b', 'c');
        due(2, "three signs", x.slip(8, 3), 3);
        due(2, "all signs", x.length(0), 12);
    }

    /** "FULL: there are 256 SLIPS" */
    private static void typeWhenFull() {
        ManyPens x = filled(MOST_SLIPS - 1);
        done(2, "the last", x, x.type(5, 0, 'a', 'b', 'c'), 255);
        for (int p = 0; p < 6; p++) {
            refused(2, "pen " + p, x, x.type(p, 0, 'a', -1, -1), FULL);
        }
        due(2, "no more", x.slips(), MOST_SLIPS);
        due(2, "the last one's text", x.length(5), 3);
        due(2, "the others' text", x.length(0), 255);
    }

    // ---- promise 3

    /** A TEXT of that many SIGNS. */
    private static ManyPens ofLength(int n) {
        ManyPens x = new ManyPens();
        for (int i = 0; i < n; i++) {
            x.type(0, i, 'a' + i, -1, -1);
        }
        return x;
    }

    /** "BEYOND: there is no such PEN" */
    private static void strikeOfPens() {
        ManyPens x = with("a");
        write(x, 5, 0, "b");
        for (int p : NO_PENS) {
            refused(3, "no pen " + p, x, x.strike(p, 0, 1), BEYOND);
        }
        done(3, "pen 0", x, x.strike(0, 0, 1), 2);
        done(3, "pen 5", x, x.strike(5, 0, 1), 3);
    }

    /** "NEGATIVE: n is below 0; BEYOND: n is not 1 to 12" */
    private static void strikeOfNumbers() {
        ManyPens x = ofLength(13);
        refused(3, "n is -1", x, x.strike(0, 0, -1), NEGATIVE);
        refused(3, "n is the least number", x, x.strike(0, 0, MIN), NEGATIVE);
        refused(3, "n is 0", x, x.strike(0, 0, 0), BEYOND);
        refused(3, "n is 13 of 13", x, x.strike(0, 0, 13), BEYOND);
        refused(3, "n is the greatest number", x, x.strike(0, 0, MAX), BEYOND);
        due(3, "none was made", x.slips(), 13);
        done(3, "n is 12", x, x.strike(0, 1, 12), 13);
        due(3, "twelve signs", x.slip(13, 3), 12);
        done(3, "n is 1", x, x.strike(0, 0, 1), 14);
        due(3, "one sign", x.slip(14, 3), 1);
        due(3, "nothing is left", x.length(0), 0);
    }

    /** "the TEXT has no n SIGNS from there on (from below 0, too)" */
    private static void strikeFrom() {
        ManyPens x = ofLength(12);
        refused(3, "behind the last", x, x.strike(0, 12, 1), BEYOND);
        refused(3, "one too many from 1 on", x, x.strike(0, 1, 12), BEYOND);
        refused(3, "one too many at the end", x, x.strike(0, 11, 2), BEYOND);
        refused(3, "from -1, one", x, x.strike(0, -1, 1), BEYOND);
        refused(3, "from -1, up to a sign", x, x.strike(0, -1, 2), BEYOND);
        refused(3, "from far below 0", x, x.strike(0, MIN, 1), BEYOND);
        refused(3, "from far below 0, many", x, x.strike(0, MIN, 12), BEYOND);
        refused(3, "far behind", x, x.strike(0, MAX, 1), BEYOND);
        refused(3, "the end wraps around", x, x.strike(0, MAX, 12), BEYOND);
        refused(3, "the end wraps around to 0", x, x.strike(0, MAX - 11, 12), BEYOND);
        refused(3, "another sheet", x, x.strike(1, 0, 1), BEYOND);
        due(3, "none was made", x.slips(), 12);
        done(3, "the last sign", x, x.strike(0, 11, 1), 12);
        refused(3, "twelve of eleven seen ones", x, x.strike(0, 0, 12), BEYOND);
        done(3, "the last two", x, x.strike(0, 9, 2), 13);
        done(3, "all the others", x, x.strike(0, 0, 9), 14);
        refused(3, "an empty text", x, x.strike(0, 0, 1), BEYOND);
        refused(3, "none of an empty text", x, x.strike(0, 0, 0), BEYOND);
    }

    /** "the n SIGNS of its TEXT from PLACE from on" */
    private static void strikeHasItsSigns() {
        ManyPens x = ofLength(5);
        x.strike(0, 2, 1);
        x.strike(0, 1, 2);
        dueText(3, "the first and the last stay", x, 0, "ae");
        due(3, "first struck", x.part(6, 0), 4);
        due(3, "a struck sign is passed over", x.part(6, 1), 12);
        due(3, "struck but once", x.strikers(0, 8), 1);
    }

    /** "FULL" */
    private static void strikeWhenFull() {
        ManyPens x = filled(MOST_SLIPS - 1);
        done(3, "the last", x, x.strike(0, 254, 1), 255);
        refused(3, "one more", x, x.strike(0, 0, 1), FULL);
        refused(3, "twelve", x, x.strike(0, 242, 12), FULL);
        due(3, "no more", x.slips(), MOST_SLIPS);
        due(3, "one is struck", x.length(0), 254);
    }

    // ---- promise 4

    /** "BEYOND: there is no such PEN" */
    private static void markOfPens() {
        ManyPens x = with("a");
        write(x, 5, 0, "b");
        for (int p : NO_PENS) {
            refused(4, "no pen " + p, x, x.mark(p, 0, 1, 0, 1), BEYOND);
        }
        done(4, "pen 0", x, x.mark(0, 0, 1, 0, 1), 2);
        done(4, "pen 5", x, x.mark(5, 0, 1, 0, 1), 3);
    }

    /** "NEGATIVE: n is below 0; BEYOND: n is 0" */
    private static void markOfNumbers() {
        ManyPens x = ofLength(14);
        refused(4, "n is -1", x, x.mark(0, 0, -1, 0, 1), NEGATIVE);
        refused(4, "n is the least number", x, x.mark(0, 0, MIN, 0, 1), NEGATIVE);
        refused(4, "n is 0", x, x.mark(0, 0, 0, 0, 1), BEYOND);
        refused(4, "n is 0, at the end", x, x.mark(0, 14, 0, 0, 1), BEYOND);
        refused(4, "one more than all", x, x.mark(0, 0, 15, 0, 1), BEYOND);
        due(4, "none was made", x.slips(), 14);
        done(4, "n is 1", x, x.mark(0, 0, 1, 0, 1), 14);
        done(4, "n is 13, which no strike may have", x, x.mark(0, 1, 13, 1, 1), 15);
        done(4, "n is the length", x, x.mark(0, 0, 14, 2, 1), 16);
        due(4, "the first", x.text(0, 0, 2), 5);
        due(4, "the second", x.text(0, 1, 2), 6);
        due(4, "the last", x.text(0, 13, 2), 6);
    }

    /** "the TEXT has no n SIGNS from there on (from below 0, too)" */
    private static void markFrom() {
        ManyPens x = ofLength(4);
        x.strike(0, 3, 1);
        refused(4, "behind the last seen one", x, x.mark(0, 3, 1, 0, 1), BEYOND);
        refused(4, "one too many", x, x.mark(0, 2, 2, 0, 1), BEYOND);
        refused(4, "one too many from 0 on", x, x.mark(0, 0, 4, 0, 1), BEYOND);
        refused(4, "from -1, one", x, x.mark(0, -1, 1, 0, 1), BEYOND);
        refused(4, "from -1, up to a sign", x, x.mark(0, -1, 2, 0, 1), BEYOND);
        refused(4, "from far below 0", x, x.mark(0, MIN, 1, 0, 1), BEYOND);
        refused(4, "from far below 0, the greatest number", x, x.mark(0, MIN, MAX, 0, 1), BEYOND);
        refused(4, "far behind", x, x.mark(0, MAX, 1, 0, 1), BEYOND);
        refused(4, "the end wraps around", x, x.mark(0, MAX, MAX, 0, 1), BEYOND);
        refused(4, "the end wraps around from a place", x, x.mark(0, 1, MAX, 0, 1), BEYOND);
        refused(4, "the greatest number", x, x.mark(0, 0, MAX, 0, 1), BEYOND);
        refused(4, "another sheet", x, x.mark(1, 0, 1, 0, 1), BEYOND);
        due(4, "none was made", x.slips(), 5);
        done(4, "the last seen one", x, x.mark(0, 2, 1, 0, 1), 5);
        done(4, "all that are seen", x, x.mark(0, 0, 3, 0, 1), 6);
        ManyPens y = new ManyPens();
        refused(4, "an empty text", y, y.mark(0, 0, 1, 0, 1), BEYOND);
    }

    /** "tint is not 0 to 3" */
    private static void markOfTints() {
        ManyPens x = with("a");
        for (int tint : outside(0, 3)) {
            refused(4, "tint " + tint, x, x.mark(0, 0, 1, tint, 1), BEYOND);
        }
        done(4, "the least tint", x, x.mark(0, 0, 1, 0, 1), 1);
        dueTints(4, "the least tint", x, 0, 1);
        done(4, "the greatest tint", x, x.mark(0, 0, 1, 3, 1), 2);
        dueTints(4, "both", x, 0, 9);
    }

    /** "or how not 0 to 3" */
    private static void markOfHows() {
        ManyPens x = with("a");
        for (int how : outside(0, 3)) {
            refused(4, "how " + how, x, x.mark(0, 0, 1, 0, how), BEYOND);
        }
        due(4, "none was made", x.slips(), 1);
    }

    /** "it is ON if how is 1 or 3, GROWS if how is 2 or 3" */
    private static void markOfEachHow() {
        for (int how = 0; how <= 3; how++) {
            ManyPens x = with("a");
            x.mark(0, 0, 1, 1, how % 2 == 0 ? 3 : 0);
            done(4, "how " + how, x, x.mark(0, 0, 1, 1, how), 2);
            due(4, "on, by how " + how, x.text(0, 0, 2), how == 1 || how == 3 ? 2 : 0);
            due(4, "bound, by how " + how, x.bound(2), how >= 2 ? EDGE : -3);
        }
    }

    /** "its BOUND is then the SIGN next behind LAST in ORDER at its SHEET (SEEN or not), the END if there is none" */
    private static void markHasItsBound() {
        ManyPens x = with("abc");
        x.all(0, 1);
        write(x, 1, 2, "X");
        write(x, 1, 4, "Y");
        due(4, "one sign, the next is seen", x.bound(x.mark(0, 0, 1, 0, 3)), 1);
        due(4, "behind last, not behind first", x.bound(x.mark(0, 0, 2, 0, 2)), 2);
        due(4, "the end of its own sheet", x.bound(x.mark(0, 0, 3, 0, 3)), EDGE);
        due(4, "the last sign alone", x.bound(x.mark(0, 2, 1, 0, 3)), EDGE);
        x.strike(0, 1, 2);
        due(4, "the next is struck", x.bound(x.mark(0, 0, 1, 0, 3)), 1);
        due(4, "no end: what stands behind is struck", x.bound(x.mark(0, 0, 1, 0, 2)), 1);
        write(x, 0, 1, "Z");
        x.undo(0, 10);
        due(4, "the next one's put is undone", x.bound(x.mark(0, 0, 1, 0, 3)), 40);
    }

    /** "FULL" */
    private static void markWhenFull() {
        ManyPens x = filled(MOST_SLIPS - 1);
        done(4, "the last", x, x.mark(0, 0, 255, 3, 3), 255);
        refused(4, "one more", x, x.mark(0, 0, 1, 0, 1), FULL);
        refused(4, "one more, off", x, x.mark(0, 0, 255, 3, 0), FULL);
        due(4, "no more", x.slips(), MOST_SLIPS);
        due(4, "the last one holds", x.text(0, 254, 2), 8);
    }

    // ---- promise 5

    /** "BEYOND: there is no such PEN" */
    private static void undoOfPens() {
        ManyPens x = with("a");
        write(x, 5, 0, "b");
        for (int p : NO_PENS) {
            refused(5, "no pen " + p, x, x.undo(p, 0), BEYOND);
        }
        done(5, "pen 0", x, x.undo(0, 0), 2);
        done(5, "pen 5", x, x.undo(5, 1), 3);
    }

    /** "or no such SLIP" */
    private static void undoOfSlips() {
        ManyPens x = with("a");
        write(x, 0, 1, "b");
        for (int slip : noSlips(2)) {
            refused(5, "no slip " + slip, x, x.undo(0, slip), BEYOND);
        }
        done(5, "the last slip", x, x.undo(0, 1), 2);
        done(5, "the first slip", x, x.undo(0, 0), 3);
        refused(5, "one that would be its own", x, x.undo(0, 4), BEYOND);
    }

    /** "OTHER: it is another PEN's" */
    private static void undoOfOthers() {
        ManyPens x = new ManyPens();
        for (int p = 0; p < 6; p++) {
            write(x, p, 0, "a");
            x.all(p, 5);
        }
        for (int p = 0; p < 6; p++) {
            for (int slip = 0; slip < 6; slip++) {
                if (slip != p) {
                    refused(5, "slip " + slip + " by pen " + p, x, x.undo(p, slip), OTHER);
                }
            }
        }
        due(5, "none was made", x.slips(), 6);
        for (int p = 0; p < 6; p++) {
            done(5, "its own", x, x.undo(p, p), 6 + p);
        }
    }

    /** "STILL: it doesn't WORK at its SHEET" */
    private static void undoOfWhatDoesNotWork() {
        ManyPens x = with("a");
        x.strike(0, 0, 1);
        x.undo(0, 0);
        refused(5, "a put that is undone", x, x.undo(0, 0), STILL);
        done(5, "a strike of what is undone works", x, x.undo(0, 1), 3);
        refused(5, "a strike that is undone", x, x.undo(0, 1), STILL);
        done(5, "an undo", x, x.undo(0, 2), 4);
        refused(5, "an undo that is undone", x, x.undo(0, 2), STILL);
        done(5, "the put works again", x, x.undo(0, 0), 5);
        refused(5, "but once", x, x.undo(0, 0), STILL);
        due(5, "six slips", x.slips(), 6);
    }

    /** An UNDO may be undone at other SHEETS before it came there: only the PEN's own SHEET counts. */
    private static void undoAtItsOwnSheet() {
        ManyPens x = with("a");
        x.all(0, 1);
        x.undo(0, 0);
        due(5, "works at the other sheet", x.state(1, 0), 3);
        refused(5, "not at its own", x, x.undo(0, 0), STILL);
    }

    /** "FULL" */
    private static void undoWhenFull() {
        ManyPens x = filled(MOST_SLIPS - 1);
        done(5, "the last", x, x.undo(0, 254), 255);
        refused(5, "another put", x, x.undo(0, 0), FULL);
        refused(5, "the undo itself", x, x.undo(0, 255), FULL);
        due(5, "no more", x.slips(), MOST_SLIPS);
        due(5, "one is undone", x.length(0), 254);
    }

    public static void main(String[] args) {
        newSheetsAreEmpty();
        newObjectHasNoSlips();
        newObjectHasNoCursors();
        objectsShareNothing();
        typeOfPens();
        typeAtPlaces();
        typeAtPlacesOfWhatIsSeen();
        typeHasItsLeft();
        typeOfNothing();
        typeOfCodes();
        typeUpToTheFirstNone();
        typeWhenFull();
        strikeOfPens();
        strikeOfNumbers();
        strikeFrom();
        strikeHasItsSigns();
        strikeWhenFull();
        markOfPens();
        markOfNumbers();
        markFrom();
        markOfTints();
        markOfHows();
        markOfEachHow();
        markHasItsBound();
        markWhenFull();
        undoOfPens();
        undoOfSlips();
        undoOfOthers();
        undoOfWhatDoesNotWork();
        undoAtItsOwnSheet();
        undoWhenFull();
        end();
    }
}
