/** Promises 27 to 29, cursors and status: each sentence of theirs that names a boundary. */
public final class CursorBoundsTest extends Checks {

    // ---- promise 27

    /** "BEYOND: there is no such PEN" */
    private static void cursorOfPens() {
        ManyPens x = new ManyPens();
        for (int p : NO_PENS) {
            refused(27, "no pen " + p, x, x.cursor(p, 0, 0, 0), BEYOND);
        }
        done(27, "pen 0", x, x.cursor(0, 0, 0, 0), 1);
        done(27, "pen 5", x, x.cursor(5, 0, 0, 0), 1);
        due(27, "no other pen's", x.where(1, 0), NONE);
    }

    /** "cursor c of PEN p": each PEN has its own three. */
    private static void cursorOfEachPen() {
        ManyPens x = with("abc");
        for (int p = 1; p < 6; p++) {
            x.all(0, p);
        }
        for (int p = 0; p < 6; p++) {
            done(27, "pen " + p, x, x.cursor(p, 1, 1 + p % 3, p % 2), 1);
        }
        for (int p = 0; p < 6; p++) {
            due(28, "pen " + p, x.where(p, 1), 1 + p % 3);
            due(28, "another cursor of pen " + p, x.where(p, 0), NONE);
        }
        write(x, 0, 1, "X");
        for (int p = 1; p < 6; p++) {
            x.all(0, p);
            due(28, "pen " + p + " behind a put", x.where(p, 1), 2 + p % 3);
        }
    }

    /** "c is not 0 to 2" */
    private static void cursorOfNumbers() {
        ManyPens x = with("abc");
        for (int c : outside(0, 2)) {
            refused(27, "no cursor " + c, x, x.cursor(0, c, 0, 0), BEYOND);
        }
        for (int c = 0; c < 3; c++) {
            due(27, "not told yet: " + c, x.where(0, c), NONE);
            done(27, "cursor " + c, x, x.cursor(0, c, c + 1, 0), 1);
        }
        for (int c = 0; c < 3; c++) {
            due(27, "each at its own place: " + c, x.where(0, c), c + 1);
        }
    }

    /** "place not 0 to the length" */
    private static void cursorAtPlaces() {
        ManyPens x = with("abc");
        x.strike(0, 1, 1);
        for (int lean = 0; lean < 2; lean++) {
            for (int place : outside(0, 2)) {
                refused(27, "no place " + place + ", lean " + lean, x, x.cursor(0, lean, place, lean), BEYOND);
                due(27, "never told, lean " + lean, x.where(0, lean), NONE);
            }
            for (int place : outside(0, 0)) {
                refused(27, "an empty text, place " + place, x, x.cursor(1, 0, place, lean), BEYOND);
            }
            for (int place = 0; place <= 2; place++) {
                done(27, "place " + place + ", lean " + lean, x, x.cursor(0, lean, place, lean), 1);
                due(27, "it stands there", x.where(0, lean), place);
            }
            done(27, "an empty text, lean " + lean, x, x.cursor(1, lean, 0, lean), 1);
            due(27, "it stands at 0", x.where(1, lean), 0);
        }
    }

    /** "lean not 0 or 1" */
    private static void cursorOfLeans() {
        ManyPens x = with("abc");
        for (int lean : outside(0, 1)) {
            refused(27, "no lean " + lean, x, x.cursor(0, 0, 1, lean), BEYOND);
        }
        due(27, "never told", x.where(0, 0), NONE);
        done(27, "lean 0", x, x.cursor(0, 0, 1, 0), 1);
        done(27, "lean 1", x, x.cursor(0, 1, 1, 1), 1);
        write(x, 0, 1, "X");
        due(27, "behind a", x.where(0, 0), 1);
        due(27, "at b", x.where(0, 1), 2);
    }

    /** "it is BESIDE that SIGN from now on, or the BEGINNING or END if there is none" */
    private static void cursorAtTheEdges() {
        ManyPens x = with("abc");
        x.cursor(0, 0, 0, 0);
        x.cursor(0, 1, 3, 1);
        x.cursor(0, 2, 3, 0);
        x.cursor(1, 0, 0, 0);
        x.cursor(1, 1, 0, 1);
        x.all(0, 1);
        due(28, "the beginning of what was empty", x.where(1, 0), 0);
        due(28, "the end of what was empty", x.where(1, 1), 3);
        write(x, 0, 0, "X");
        write(x, 0, 4, "Y");
        due(28, "beside the beginning", x.where(0, 0), 0);
        due(28, "beside the end", x.where(0, 1), 5);
        due(28, "beside the last sign", x.where(0, 2), 4);
        x.strike(0, 0, 5);
        due(28, "the beginning of nothing", x.where(0, 0), 0);
        due(28, "the end of nothing", x.where(0, 1), 0);
        due(28, "beside a struck sign", x.where(0, 2), 0);
    }

    /** All SIGNS are struck: a cursor that is told then is BESIDE the BEGINNING or the END, not a struck SIGN. */
    private static void cursorAmongStruckSigns() {
        ManyPens x = with("abc");
        x.strike(0, 0, 3);
        x.cursor(0, 0, 0, 0);
        x.cursor(0, 1, 0, 1);
        x.undo(0, 1);
        due(28, "the beginning", x.where(0, 0), 0);
        due(28, "the end", x.where(0, 1), 3);
    }

    /** "cursor c of PEN p stands at PLACE place": told anew, it stands there alone. */
    private static void cursorToldAnew() {
        ManyPens x = with("abc");
        x.cursor(0, 0, 3, 1);
        x.cursor(0, 0, 1, 0);
        write(x, 0, 3, "d");
        due(28, "it leans to a now", x.where(0, 0), 1);
        x.cursor(0, 0, 0, 1);
        write(x, 0, 0, "X");
        due(28, "it leans to a from the other side", x.where(0, 0), 1);
        x.cursor(0, 0, 0, 0);
        due(28, "the beginning", x.where(0, 0), 0);
    }

    // ---- promise 28

    /** "NONE: there is no such PEN, c is not 0 to 2, or it was never told" */
    private static void whereOfPensAndNumbers() {
        ManyPens x = with("abc");
        x.cursor(0, 0, 1, 0);
        x.cursor(5, 2, 0, 1);
        for (int p : NO_PENS) {
            due(28, "no pen " + p, x.where(p, 0), NONE);
        }
        for (int c : outside(0, 2)) {
            due(28, "no cursor " + c, x.where(0, c), NONE);
            due(28, "no cursor " + c + " of pen 5", x.where(5, c), NONE);
        }
        due(28, "pen 0, cursor 0", x.where(0, 0), 1);
        due(28, "pen 5, cursor 2", x.where(5, 2), 0);
        due(28, "never told, of pen 0", x.where(0, 2), NONE);
        due(28, "never told, of pen 5", x.where(5, 0), NONE);
        due(28, "never told, of another pen", x.where(3, 1), NONE);
    }

    /** "the last SEEN SIGN in ORDER that is the SIGN that it is BESIDE or ahead of that (0 if there is none" */
    private static void whereTheSignAheadIsStruck() {
        ManyPens x = with("abc");
        for (int place = 1; place <= 3; place++) {
            x.cursor(0, place - 1, place, 0);
        }
        x.strike(0, 1, 1);
        due(28, "a", x.where(0, 0), 1);
        due(28, "b is struck: behind a", x.where(0, 1), 1);
        due(28, "c", x.where(0, 2), 2);
        x.strike(0, 0, 1);
        due(28, "a is struck: none ahead", x.where(0, 0), 0);
        due(28, "a and b are struck: none ahead", x.where(0, 1), 0);
        due(28, "c is the first", x.where(0, 2), 1);
        write(x, 0, 0, "X");
        due(28, "one stands ahead of a again", x.where(0, 0), 1);
        due(28, "and of b", x.where(0, 1), 1);
    }

    /** "the PLACE of the first SEEN SIGN in ORDER that is that SIGN or behind it (the length if there is none" */
    private static void whereTheSignAtItIsStruck() {
        ManyPens x = with("abc");
        for (int place = 0; place < 3; place++) {
            x.cursor(0, place, place, 1);
        }
        x.strike(0, 1, 1);
        due(28, "a", x.where(0, 0), 0);
        due(28, "b is struck: at c", x.where(0, 1), 1);
        due(28, "c", x.where(0, 2), 1);
        x.strike(0, 1, 1);
        due(28, "c is struck: the length", x.where(0, 2), 1);
        due(28, "b and c are struck: the length", x.where(0, 1), 1);
        due(28, "a is the last", x.where(0, 0), 0);
        write(x, 0, 1, "X");
        due(28, "X stands ahead of b, the length", x.where(0, 1), 2);
        x.undo(0, 2);
        due(28, "c is seen again", x.where(0, 2), 2);
    }

    /** A SIGN whose PUT is undone stays in ORDER, and so does the cursor beside it. */
    private static void whereThePutIsUndone() {
        ManyPens x = with("a");
        write(x, 0, 1, "b");
        write(x, 0, 2, "c");
        x.cursor(0, 0, 2, 0);
        x.cursor(0, 1, 1, 1);
        x.undo(0, 1);
        due(28, "behind a", x.where(0, 0), 1);
        due(28, "at c", x.where(0, 1), 1);
        x.undo(0, 3);
        due(28, "behind b again", x.where(0, 0), 2);
        due(28, "at b again", x.where(0, 1), 1);
    }

    /** Others' SIGNS move it; they come when they are TAKEN, not when they are made. */
    private static void whereOthersWrite() {
        ManyPens x = with("ab");
        x.all(0, 1);
        x.cursor(0, 0, 1, 0);
        x.cursor(0, 1, 1, 1);
        write(x, 1, 0, "X");
        write(x, 1, 2, "Y");
        due(28, "not carried yet", x.where(0, 0), 1);
        x.carry(2, 0);
        due(28, "it waits", x.where(0, 1), 1);
        x.carry(1, 0);
        due(28, "behind a", x.where(0, 0), 2);
        due(28, "at b", x.where(0, 1), 3);
    }

    /** At the edges of the longest TEXT. */
    private static void whereTextsAreLongest() {
        ManyPens x = new ManyPens();
        for (int slip = 0; slip < MOST_SLIPS; slip++) {
            x.type(0, 3 * slip, 'a', 'b', 'c');
        }
        refused(27, "behind the end", x, x.cursor(0, 0, 769, 0), BEYOND);
        done(27, "behind the last sign", x, x.cursor(0, 0, 768, 0), 1);
        done(27, "at the last sign", x, x.cursor(0, 1, 767, 1), 1);
        done(27, "at the end", x, x.cursor(0, 2, 768, 1), 1);
        due(28, "behind the last sign", x.where(0, 0), 768);
        due(28, "at the last sign", x.where(0, 1), 767);
        due(28, "at the end", x.where(0, 2), 768);
    }

    // ---- promise 29

    /** "0 ahead of any" */
    private static void statusAheadOfAny() {
        ManyPens x = new ManyPens();
        due(29, "at once", x.status(), FINE);
        x.length(-1);
        x.slip(0, 0);
        due(29, "ahead of any act, behind asks", x.status(), FINE);
    }

    /** "the FINDING of the latest ACT": each of the seven, each over another one. */
    private static void statusOfEachFinding() {
        ManyPens x = filled(MOST_SLIPS - 2);
        write(x, 1, 0, "a");
        x.undo(0, 253);
        int[] latest = {FULL, BEYOND, KIND, NEGATIVE, OTHER, STILL, FINE, KIND, FULL};
        for (int finding : latest) {
            switch (finding) {
                case BEYOND: x.left(256); break;
                case FULL: x.type(0, 0, 'a', -1, -1); break;
                case OTHER: x.undo(0, 254); break;
                case STILL: x.undo(0, 253); break;
                case NEGATIVE: x.mark(0, 0, -1, 0, 0); break;
                case KIND: x.bound(0); break;
                default: x.undone(255);
            }
            due(29, "the latest", x.status(), finding);
            due(29, "asked again", x.status(), finding);
        }
    }

    /** "one that is done ... status() is 0 then": each ACT wipes the FINDING of one that was refused. */
    private static void statusOfEachActThatIsDone() {
        ManyPens x = new ManyPens();
        for (int act = 0; act < 11; act++) {
            refused(29, "ahead of act " + act, x, x.carry(-1, 0), BEYOND);
            switch (act) {
                case 0: done(29, "type", x, x.type(0, 0, 'a', 'b', 'c'), 0); break;
                case 1: done(29, "strike", x, x.strike(0, 0, 1), 1); break;
                case 2: done(29, "mark", x, x.mark(0, 0, 1, 0, 0), 2); break;
                case 3: done(29, "undo", x, x.undo(0, 1), 3); break;
                case 4: done(29, "carry", x, x.carry(0, 0), 0); break;
                case 5: done(29, "all", x, x.all(1, 0), 0); break;
                case 6: done(29, "part", x, x.part(0, 0), 0); break;
                case 7: done(29, "left, which answers less than 0", x, x.left(0), EDGE); break;
                case 8: done(29, "bound, which answers less than 0", x, x.bound(2), -3); break;
                case 9: done(29, "undone", x, x.undone(3), 1); break;
                default: done(29, "cursor", x, x.cursor(0, 0, 0, 0), 1);
            }
        }
    }

    public static void main(String[] args) {
        cursorOfPens();
        cursorOfEachPen();
        cursorOfNumbers();
        cursorAtPlaces();
        cursorOfLeans();
        cursorAtTheEdges();
        cursorAmongStruckSigns();
        cursorToldAnew();
        whereOfPensAndNumbers();
        whereTheSignAheadIsStruck();
        whereTheSignAtItIsStruck();
        whereThePutIsUndone();
        whereOthersWrite();
        whereTextsAreLongest();
        statusAheadOfAny();
        statusOfEachFinding();
        statusOfEachActThatIsDone();
        end();
    }
}
