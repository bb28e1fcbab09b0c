/** Directed tests, promise by promise: ordinary inputs, the edges, and wrong inputs. */
public final class PromiseTest extends Checks {
    private static void newObject() {
        ManyPens x = new ManyPens();
        due(1, "slips", x.slips(), 0);
        due(1, "status", x.status(), 0);
        for (int p = 0; p < 6; p++) {
            due(1, "length", x.length(p), 0);
            due(1, "signs", x.signs(p), 0);
            due(1, "history", x.history(p, 0), -1);
            for (int c = 0; c < 3; c++) {
                due(1, "where", x.where(p, c), -1);
            }
        }
        write(x, 0, 0, "abc");
        ManyPens y = new ManyPens();
        due(1, "slips of another object", y.slips(), 0);
        due(1, "length of another object", y.length(0), 0);
        due(1, "NONE", ManyPens.NONE, -1);
        due(1, "EDGE", ManyPens.EDGE, -2);
    }

    private static void typing() {
        ManyPens x = new ManyPens();
        done(2, "one code", x, x.type(0, 0, 'a', -1, -1), 0);
        done(2, "two codes", x, x.type(0, 1, 'b', 'c', -1), 1);
        done(2, "three codes", x, x.type(0, 3, 'd', 'e', 'f'), 2);
        dueText(2, "at the end", x, 0, "abcdef");
        done(2, "at the beginning", x, x.type(0, 0, 'X', -1, -1), 3);
        done(2, "inside a put", x, x.type(0, 3, 'Y', -1, -1), 4);
        dueText(2, "inside", x, 0, "XabYcdef");
        done(2, "c behind -1 is not looked at", x, x.type(0, 0, 0, -1, 9999), 5);
        done(2, "c behind -1 is no code", x, x.type(0, 0, 255, -1, 7), 6);
        due(2, "one sign", x.slip(6, 3), 1);
        due(2, "code 255", x.text(0, 0, 0), 255);
        due(2, "code 0", x.text(0, 1, 0), 0);
        due(2, "left of the first", x.left(0), -2);
        due(2, "left inside a put", x.left(4), 4);
        due(2, "slips", x.slips(), 7);
    }

    private static void typingRefused() {
        ManyPens x = with("abc");
        for (int p : NO_PENS) {
            refused(2, "no pen", x, x.type(p, 0, 'a', -1, -1), BEYOND);
        }
        for (int place : new int[] {-1, 4, MIN, MAX}) {
            refused(2, "no place", x, x.type(0, place, 'a', -1, -1), BEYOND);
        }
        refused(2, "place of another sheet", x, x.type(1, 1, 'a', -1, -1), BEYOND);
        refused(2, "a is -1", x, x.type(0, 0, -1, 'a', 'b'), BEYOND);
        for (int code : new int[] {-2, 256, MIN, MAX}) {
            refused(2, "a is no code", x, x.type(0, 0, code, -1, -1), BEYOND);
            refused(2, "b is no code", x, x.type(0, 0, 'a', code, -1), BEYOND);
            refused(2, "c is no code", x, x.type(0, 0, 'a', 'b', code), BEYOND);
        }
        due(2, "nothing was made", x.slips(), 1);
        dueText(2, "nothing was put", x, 0, "abc");
        x.strike(0, 0, 1);
        refused(2, "length is of seen signs", x, x.type(0, 3, 'a', -1, -1), BEYOND);
        done(2, "behind the last seen one", x, x.type(0, 2, 'd', -1, -1), 2);
        due(2, "its left", x.left(2), 2);
    }

    private static void typingFull() {
        ManyPens x = filled(256);
        refused(2, "full", x, x.type(1, 0, 'a', -1, -1), FULL);
        refused(2, "beyond ahead of full", x, x.type(1, 1, 'a', -1, -1), BEYOND);
        refused(2, "bad code ahead of full", x, x.type(1, 0, 256, -1, -1), BEYOND);
        refused(3, "full", x, x.strike(0, 0, 1), FULL);
        refused(3, "negative ahead of full", x, x.strike(0, 0, -1), NEGATIVE);
        refused(3, "beyond ahead of full", x, x.strike(0, 0, 13), BEYOND);
        refused(4, "full", x, x.mark(0, 0, 1, 0, 1), FULL);
        refused(4, "negative ahead of full", x, x.mark(0, 0, -1, 0, 1), NEGATIVE);
        refused(4, "beyond ahead of full", x, x.mark(0, 0, 1, 4, 1), BEYOND);
        refused(5, "full", x, x.undo(0, 0), FULL);
        refused(5, "beyond ahead of full", x, x.undo(0, 256), BEYOND);
        refused(5, "other ahead of full", x, x.undo(1, 0), OTHER);
        due(10, "slips of a full object", x.slips(), 256);
        due(17, "length of a full object", x.length(0), 256);
        due(24, "the last one's number", x.history(0, 255), 255);
        done(6, "carry goes on", x, x.carry(0, 5), 1);
        done(7, "all goes on", x, x.all(0, 5), 255);
        due(20, "the greatest name", x.order(5, 0), 4 * 255);
    }

    private static void stillAheadOfFull() {
        ManyPens x = with("a");
        for (int i = 0; i < 255; i++) {
            x.undo(0, i);
        }
        due(5, "each undid the one ahead of it", x.slips(), 256);
        due(5, "the last works", x.state(0, 255), 3);
        due(5, "the one ahead of it does not", x.state(0, 254), 2);
        due(5, "a chain of 255 undos", x.length(0), 0);
        refused(5, "still ahead of full", x, x.undo(0, 254), STILL);
        refused(5, "full", x, x.undo(0, 255), FULL);
    }

    private static void striking() {
        ManyPens x = with("abc");
        write(x, 0, 3, "def");
        write(x, 0, 6, "ghi");
        write(x, 0, 9, "jkl");
        write(x, 0, 12, "m");
        done(3, "one in the middle", x, x.strike(0, 1, 1), 5);
        dueText(3, "one is gone", x, 0, "acdefghijklm");
        done(3, "twelve", x, x.strike(0, 0, 12), 6);
        dueText(3, "all are gone", x, 0, "");
        due(3, "its signs", x.slip(6, 3), 12);
        due(3, "its second sign is the second seen", x.part(6, 1), 2);
        due(3, "its last sign", x.part(6, 11), 16);
        due(3, "signs stay in order", x.signs(0), 13);
        refused(3, "nothing is left", x, x.strike(0, 0, 1), BEYOND);
    }

    private static void strikingRefused() {
        ManyPens x = with("abc");
        for (int i = 0; i < 4; i++) {
            write(x, 0, 0, "xyz");
        }
        for (int p : NO_PENS) {
            refused(3, "no pen", x, x.strike(p, 0, 1), BEYOND);
            refused(3, "no pen ahead of negative", x, x.strike(p, 0, -1), BEYOND);
        }
        for (int n : new int[] {-1, MIN}) {
            refused(3, "negative", x, x.strike(0, 0, n), NEGATIVE);
            refused(3, "negative ahead of beyond", x, x.strike(0, -1, n), NEGATIVE);
        }
        for (int n : new int[] {0, 13, MAX}) {
            refused(3, "n is not 1 to 12", x, x.strike(0, 0, n), BEYOND);
        }
        for (int from : new int[] {-1, 15, MIN, MAX}) {
            refused(3, "no such sign", x, x.strike(0, from, 1), BEYOND);
        }
        refused(3, "not enough signs", x, x.strike(0, 13, 3), BEYOND);
        refused(3, "another sheet", x, x.strike(1, 0, 1), BEYOND);
        refused(3, "overflow", x, x.strike(0, MAX, 12), BEYOND);
        due(3, "nothing was made", x.slips(), 5);
        done(3, "up to the last", x, x.strike(0, 13, 2), 5);
    }

    private static void marking() {
        ManyPens x = with("abc");
        write(x, 0, 3, "def");
        done(4, "on", x, x.mark(0, 1, 2, 0, 1), 2);
        dueTints(4, "on", x, 0, 0, 1, 1, 0, 0, 0);
        done(4, "off", x, x.mark(0, 2, 1, 0, 0), 3);
        dueTints(4, "off", x, 0, 0, 1, 0, 0, 0, 0);
        done(4, "on, grows", x, x.mark(0, 3, 1, 3, 3), 4);
        done(4, "another tint", x, x.mark(0, 3, 2, 2, 1), 5);
        dueTints(4, "two tints", x, 0, 0, 1, 0, 12, 4, 0);
        write(x, 0, 4, "X");
        dueTints(4, "one has grown, the other covers what is inside", x, 0, 0, 1, 0, 12, 12, 4, 0);
        write(x, 0, 6, "Y");
        dueTints(4, "no growth", x, 0, 0, 1, 0, 12, 12, 4, 0, 0);
        done(4, "the whole text, grows", x, x.mark(0, 0, 8, 1, 3), 8);
        due(4, "bound is the end", x.bound(8), -2);
        write(x, 0, 8, "Z");
        due(4, "grows to the end", x.text(0, 8, 2), 2);
        write(x, 0, 0, "W");
        due(4, "does not grow ahead of first", x.text(0, 0, 2), 0);
        done(4, "off, grows", x, x.mark(0, 9, 1, 1, 2), 11);
        write(x, 0, 10, "V");
        due(4, "off at its sign", x.text(0, 9, 2), 0);
        due(4, "off behind it too", x.text(0, 10, 2), 0);
        due(4, "on ahead of it", x.text(0, 8, 2), 2);
    }

    private static void boundIsNextInOrder() {
        ManyPens x = with("abc");
        x.strike(0, 1, 1);
        done(4, "grows", x, x.mark(0, 0, 1, 0, 3), 2);
        due(4, "bound is the struck sign", x.bound(2), 1);
        write(x, 0, 1, "X");
        dueTints(4, "grows ahead of the struck sign", x, 0, 1, 1, 0);
        x.undo(0, 1);
        dueTints(4, "the bound is not covered", x, 0, 1, 1, 0, 0);
        done(4, "no growth", x, x.mark(0, 2, 1, 1, 1), 5);
        due(4, "no bound", x.bound(5), -3);
        due(4, "first", x.part(5, 0), 1);
        due(4, "last", x.part(5, 1), 1);
    }

    private static void coversWhatIsStruckOrCarried() {
        ManyPens x = with("abc");
        x.all(0, 1);
        x.strike(1, 1, 1);
        x.mark(0, 0, 3, 2, 1);
        write(x, 1, 1, "X");
        x.all(0, 1);
        x.all(1, 0);
        dueTints(4, "what another pen put inside", x, 0, 4, 4, 4);
        dueText(4, "text", x, 0, "aXc");
        x.undo(1, 1);
        dueTints(4, "a sign struck when it was marked", x, 1, 4, 4, 4, 4);
    }

    /** The BOUND is the next SIGN at the MARK's own SHEET, whatever other SHEETS have there. */
    private static void boundOfOwnSheet() {
        ManyPens x = with("ab");
        x.all(0, 1);
        write(x, 1, 1, "X");
        done(4, "grows", x, x.mark(0, 0, 1, 0, 3), 2);
        due(4, "bound", x.bound(2), 1);
        done(4, "to the end", x, x.mark(0, 1, 1, 1, 3), 3);
        due(4, "end", x.bound(3), -2);
        x.all(0, 1);
        dueTints(4, "covers what was there unknown", x, 1, 1, 1, 2);
    }

    private static void markingRefused() {
        ManyPens x = with("abc");
        for (int p : NO_PENS) {
            refused(4, "no pen", x, x.mark(p, 0, 1, 0, 1), BEYOND);
            refused(4, "no pen ahead of negative", x, x.mark(p, 0, -1, 0, 1), BEYOND);
        }
        for (int n : new int[] {-1, MIN}) {
            refused(4, "negative", x, x.mark(0, 0, n, 0, 1), NEGATIVE);
            refused(4, "negative ahead of beyond", x, x.mark(0, -1, n, 9, 9), NEGATIVE);
        }
        for (int n : new int[] {0, 4, MAX}) {
            refused(4, "no n signs", x, x.mark(0, 0, n, 0, 1), BEYOND);
        }
        for (int from : new int[] {-1, 3, MIN, MAX}) {
            refused(4, "no such sign", x, x.mark(0, from, 1, 0, 1), BEYOND);
        }
        refused(4, "overflow", x, x.mark(0, MAX, MAX, 0, 1), BEYOND);
        refused(4, "overflow", x, x.mark(0, 2, MAX, 0, 1), BEYOND);
        for (int other : new int[] {-1, 4, MIN, MAX}) {
            refused(4, "no tint", x, x.mark(0, 0, 1, other, 1), BEYOND);
            refused(4, "no how", x, x.mark(0, 0, 1, 0, other), BEYOND);
        }
        due(4, "nothing was made", x.slips(), 1);
        for (int i = 0; i < 5; i++) {
            write(x, 0, 0, "xyz");
        }
        done(4, "more than twelve signs", x, x.mark(0, 0, 18, 0, 1), 6);
        due(4, "all of them", x.text(0, 17, 2), 1);
    }

    private static void undoing() {
        ManyPens x = with("abc");
        done(5, "a put", x, x.undo(0, 0), 1);
        dueText(5, "without it", x, 0, "");
        refused(5, "still undone", x, x.undo(0, 0), STILL);
        done(5, "the undo", x, x.undo(0, 1), 2);
        dueText(5, "again with it", x, 0, "abc");
        refused(5, "that undo is still undone", x, x.undo(0, 1), STILL);
        done(5, "the put once more", x, x.undo(0, 0), 3);
        dueText(5, "without it", x, 0, "");
        done(5, "the undo of the undo", x, x.undo(0, 2), 4);
        due(5, "the first undo works again", x.state(0, 1), 3);
        done(5, "the second undo of the put", x, x.undo(0, 3), 5);
        dueText(5, "the first undo is enough", x, 0, "");
        done(5, "the first undo", x, x.undo(0, 1), 6);
        dueText(5, "no undo works", x, 0, "abc");
    }

    private static void undoingOthers() {
        ManyPens x = with("abc");
        x.all(0, 1);
        x.strike(1, 0, 2);
        x.mark(0, 0, 3, 0, 1);
        x.all(1, 0);
        x.all(0, 1);
        for (int p : NO_PENS) {
            refused(5, "no pen", x, x.undo(p, 0), BEYOND);
        }
        for (int slip : new int[] {-1, 3, 256, MIN, MAX}) {
            refused(5, "no slip", x, x.undo(0, slip), BEYOND);
        }
        refused(5, "another pen's", x, x.undo(0, 1), OTHER);
        refused(5, "another pen's, not even got", x, x.undo(5, 1), OTHER);
        done(5, "own put among others' acts", x, x.undo(0, 0), 3);
        refused(5, "other ahead of still", x, x.undo(1, 0), OTHER);
        done(5, "own strike", x, x.undo(1, 1), 4);
        dueText(5, "at its own sheet", x, 1, "abc");
        x.all(0, 1);
        dueText(5, "the put is undone there too", x, 1, "");
        done(5, "own mark", x, x.undo(0, 2), 5);
        done(5, "the put comes back", x, x.undo(0, 3), 6);
        dueText(5, "the other's undo is not here yet", x, 0, "c");
        x.all(1, 0);
        dueTints(5, "all undone", x, 0, 0, 0, 0);
    }

    private static void carrying() {
        ManyPens x = with("abc");
        write(x, 0, 3, "d");
        x.strike(0, 0, 1);
        x.mark(0, 0, 3, 1, 3);
        done(6, "nothing can be taken yet", x, x.carry(3, 1), 0);
        done(6, "nor now", x, x.carry(2, 1), 0);
        done(6, "twice", x, x.carry(3, 1), 0);
        done(6, "the first alone", x, x.carry(0, 1), 1);
        dueText(6, "the first alone", x, 1, "abc");
        done(6, "the one that was lacked", x, x.carry(1, 1), 3);
        dueText(6, "all", x, 1, "bcd");
        dueTints(6, "all", x, 1, 2, 2, 2);
        done(6, "again", x, x.carry(1, 1), 0);
        done(6, "to its own pen", x, x.carry(1, 0), 0);
        done(6, "to a third pen", x, x.carry(0, 5), 1);
        for (int p : NO_PENS) {
            refused(6, "no pen", x, x.carry(0, p), BEYOND);
        }
        for (int slip : new int[] {-1, 4, 256, MIN, MAX}) {
            refused(6, "no slip", x, x.carry(slip, 1), BEYOND);
        }
    }

    private static void needs() {
        ManyPens x = with("abc");
        write(x, 1, 0, "d");
        x.all(0, 1);
        write(x, 2, 0, "e");
        x.all(2, 1);
        x.strike(1, 0, 5);
        done(6, "strike needs all its signs", x, x.carry(1, 3), 1);
        due(6, "strike waits", x.carry(3, 3), 0);
        due(6, "one put is not enough", x.carry(0, 3), 1);
        due(6, "all puts are", x.carry(2, 3), 2);

        ManyPens y = with("a");
        write(y, 1, 0, "b");
        y.all(0, 1);
        y.mark(1, 0, 1, 0, 3);
        due(6, "b stands first", y.text(1, 0, 0), 'b');
        due(6, "bound is a", y.bound(2), 0);
        y.carry(1, 2);
        due(6, "mark needs the put of its bound", y.carry(2, 2), 0);
        due(9, "it lacks that", y.lacks(2, 2), 0);
        due(6, "now it has it", y.carry(0, 2), 2);

        ManyPens z = with("a");
        write(z, 1, 0, "b");
        z.all(0, 1);
        z.mark(1, 0, 1, 0, 1);
        z.mark(1, 1, 1, 0, 1);
        z.mark(1, 0, 2, 0, 1);
        z.carry(1, 2);
        due(6, "mark that does not grow needs no bound", z.carry(2, 2), 1);
        due(6, "mark needs the put of its first and last", z.carry(3, 2), 0);
        due(6, "waits behind that", z.carry(4, 2), 0);
        due(9, "the pen's earlier slip is lacked too, the least is told", z.lacks(2, 4), 0);
        due(6, "now all", z.carry(0, 2), 3);
    }

    private static void needsOfLeftAndUndone() {
        ManyPens x = with("a");
        x.all(0, 1);
        write(x, 1, 1, "b");
        due(6, "put needs the put of its left", x.carry(1, 2), 0);
        due(9, "left's put", x.lacks(2, 1), 0);
        due(6, "left's put comes", x.carry(0, 2), 2);
        x.all(1, 0);
        write(x, 0, 0, "c");
        x.undo(0, 0);
        due(6, "undo", x.carry(3, 1), 0);
        due(9, "undo lacks the pen's earlier slip, not what it undoes", x.lacks(1, 3), 2);
        due(6, "undo comes", x.carry(2, 1), 2);
        dueText(6, "undone", x, 1, "cb");
        ManyPens y = new ManyPens();
        write(y, 0, 0, "a");
        write(y, 0, 0, "b");
        due(6, "a pen's slips are taken in their order", y.carry(1, 1), 0);
        due(9, "though they share no sign", y.lacks(1, 1), 0);
    }

    private static void allOver() {
        ManyPens x = with("abc");
        write(x, 0, 3, "d");
        write(x, 1, 0, "e");
        x.carry(1, 2);
        done(7, "what waits is not carried on", x, x.all(2, 3), 0);
        due(7, "not got there", x.state(3, 1), 0);
        done(7, "all of one", x, x.all(0, 2), 2);
        done(7, "all of another", x, x.all(1, 2), 1);
        done(7, "again", x, x.all(0, 2), 0);
        done(7, "to itself", x, x.all(2, 2), 0);
        done(7, "all of both", x, x.all(2, 0), 1);
        due(7, "the giver keeps its own", x.signs(1), 1);
        for (int p : NO_PENS) {
            refused(7, "no giver", x, x.all(p, 0), BEYOND);
            refused(7, "no taker", x, x.all(0, p), BEYOND);
        }
        ManyPens y = with("a");
        write(y, 0, 1, "b");
        write(y, 0, 2, "c");
        y.carry(0, 1);
        y.carry(2, 2);
        done(7, "part of it", y, y.all(1, 2), 1);
        done(7, "what waited there counts", y, y.carry(1, 2), 2);
    }

    private static void states() {
        ManyPens x = with("a");
        write(x, 0, 1, "b");
        x.undo(0, 1);
        due(8, "works at its own", x.state(0, 0), 3);
        due(8, "undone at its own", x.state(0, 1), 2);
        due(8, "the undo works", x.state(0, 2), 3);
        due(8, "not got", x.state(1, 0), 0);
        x.carry(2, 1);
        due(8, "waits", x.state(1, 2), 1);
        x.carry(1, 1);
        due(8, "waits", x.state(1, 1), 1);
        x.carry(0, 1);
        due(8, "taken, undone", x.state(1, 1), 2);
        due(8, "works", x.state(1, 2), 3);
        for (int p : NO_PENS) {
            due(8, "no pen", x.state(p, 0), -1);
        }
        for (int slip : new int[] {-1, 3, 256, MIN, MAX}) {
            due(8, "no slip", x.state(0, slip), -1);
        }
    }

    private static void lacking() {
        ManyPens x = with("a");
        write(x, 0, 1, "b");
        write(x, 0, 2, "c");
        x.carry(2, 1);
        due(9, "lacks the nearest", x.lacks(1, 2), 1);
        x.carry(1, 1);
        due(9, "got is not taken", x.lacks(1, 2), 1);
        due(9, "lacks the first", x.lacks(1, 1), 0);
        due(9, "not got", x.lacks(1, 0), -1);
        due(9, "taken", x.lacks(0, 2), -1);
        x.carry(0, 1);
        due(9, "taken now", x.lacks(1, 2), -1);
        for (int p : NO_PENS) {
            due(9, "no pen", x.lacks(p, 0), -1);
        }
        for (int slip : new int[] {-1, 3, 256, MIN, MAX}) {
            due(9, "no slip", x.lacks(0, slip), -1);
        }
    }

    private static void aboutSlips() {
        ManyPens x = new ManyPens();
        due(10, "none", x.slips(), 0);
        write(x, 2, 0, "ab");
        due(10, "one", x.slips(), 1);
        x.strike(2, 5, 1);
        due(10, "a refused act makes none", x.slips(), 1);
        x.strike(2, 0, 2);
        x.undo(2, 1);
        x.mark(2, 0, 1, 3, 2);
        write(x, 4, 0, "x");
        due(10, "of all pens together", x.slips(), 5);
        int[][] want = {{2, 1, 0, 2}, {2, 2, 1, 2}, {2, 3, 3, 0}, {2, 4, 2, 2}, {4, 1, 0, 1}};
        for (int slip = 0; slip < want.length; slip++) {
            for (int what = 0; what < 4; what++) {
                due(11, "slip " + slip + ", " + what, x.slip(slip, what), want[slip][what]);
            }
            due(11, "no what", x.slip(slip, 4), -1);
            due(11, "no what", x.slip(slip, -1), -1);
        }
        for (int slip : new int[] {-1, 5, 256, MIN, MAX}) {
            due(11, "no slip", x.slip(slip, 0), -1);
        }
        x.carry(1, 4);
        write(x, 4, 0, "y");
        due(11, "what waits does not raise the stamp", x.slip(5, 1), 2);
        x.carry(0, 4);
        write(x, 4, 0, "z");
        due(11, "stamp", x.slip(6, 1), 3);
        x.all(2, 4);
        write(x, 4, 0, "w");
        due(11, "one more than the greatest taken", x.slip(7, 1), 5);
        x.all(2, 0);
        write(x, 0, 0, "v");
        due(11, "stamp of a first slip behind others", x.slip(8, 1), 5);
    }

    private static void parts() {
        ManyPens x = with("abc");
        write(x, 0, 1, "X");
        x.strike(0, 0, 3);
        x.undo(0, 2);
        x.mark(0, 1, 2, 0, 2);
        done(12, "own sign", x, x.part(0, 0), 0);
        done(12, "own last sign", x, x.part(0, 2), 2);
        done(12, "own sign of the second", x, x.part(1, 0), 4);
        done(12, "struck", x, x.part(2, 0), 0);
        done(12, "struck, in their order", x, x.part(2, 1), 4);
        done(12, "struck last", x, x.part(2, 2), 1);
        done(12, "first", x, x.part(4, 0), 4);
        done(12, "last", x, x.part(4, 1), 1);
        for (int i : new int[] {-1, 3, MIN, MAX}) {
            refused(12, "no sign of a put", x, x.part(0, i), BEYOND);
            refused(12, "no sign of a strike", x, x.part(2, i), BEYOND);
            refused(12, "no sign of a mark", x, x.part(4, i), BEYOND);
            refused(12, "kind ahead of beyond", x, x.part(3, i), KIND);
        }
        refused(12, "a put of one", x, x.part(1, 1), BEYOND);
        refused(12, "a mark has two", x, x.part(4, 2), BEYOND);
        refused(12, "an undo", x, x.part(3, 0), KIND);
        for (int slip : new int[] {-1, 5, 256, MIN, MAX}) {
            refused(12, "no slip", x, x.part(slip, 0), BEYOND);
        }
    }

    private static void leftsBoundsAndUndones() {
        ManyPens x = with("abc");
        write(x, 0, 2, "X");
        x.strike(0, 0, 1);
        x.undo(0, 2);
        x.mark(0, 0, 1, 0, 0);
        x.mark(0, 0, 1, 0, 2);
        x.mark(0, 3, 1, 0, 3);
        done(13, "the beginning", x, x.left(0), -2);
        done(13, "a sign", x, x.left(1), 1);
        done(14, "no growth", x, x.bound(4), -3);
        done(14, "a sign", x, x.bound(5), 1);
        done(14, "the end", x, x.bound(6), -2);
        done(15, "a strike", x, x.undone(3), 2);
        for (int slip : new int[] {2, 3, 4}) {
            refused(13, "no put", x, x.left(slip), KIND);
        }
        for (int slip : new int[] {0, 2, 3}) {
            refused(14, "no mark", x, x.bound(slip), KIND);
        }
        for (int slip : new int[] {0, 2, 4}) {
            refused(15, "no undo", x, x.undone(slip), KIND);
        }
        for (int slip : new int[] {-1, 7, 256, MIN, MAX}) {
            refused(13, "no slip", x, x.left(slip), BEYOND);
            refused(14, "no slip", x, x.bound(slip), BEYOND);
            refused(15, "no slip", x, x.undone(slip), BEYOND);
        }
    }

    private static void whatIsLater() {
        ManyPens x = new ManyPens();
        write(x, 3, 0, "a");
        write(x, 1, 0, "b");
        write(x, 1, 0, "c");
        due(16, "greater pen of equal stamps", x.later(0, 1), true);
        due(16, "lower pen of equal stamps", x.later(1, 0), false);
        due(16, "greater stamp of the lower pen", x.later(2, 0), true);
        due(16, "lower stamp of the greater pen", x.later(0, 2), false);
        due(16, "than itself", x.later(0, 0), false);
        for (int slip : new int[] {-1, 3, 256, MIN, MAX}) {
            due(16, "first is not there", x.later(slip, 0), false);
            due(16, "second is not there", x.later(0, slip), false);
            due(16, "neither is there", x.later(slip, slip), false);
        }
    }

    private static void ordering() {
        ManyPens x = with("ab");
        x.all(0, 1);
        x.all(0, 2);
        write(x, 2, 1, "X");
        write(x, 1, 1, "Y");
        write(x, 1, 2, "Z");
        write(x, 0, 1, "W");
        x.all(1, 2);
        x.all(0, 2);
        dueOrder(20, "greatest pen of one stamp first, replies stay with their put", x, 2, 0, 4, 8, 12, 16, 1);
        dueText(18, "text", x, 2, "aXYZWb");
        x.carry(3, 3);
        x.carry(2, 3);
        x.carry(4, 3);
        x.carry(1, 3);
        dueOrder(19, "whatever waits is not in order", x, 3);
        x.carry(0, 3);
        dueOrder(20, "any order of carrying", x, 3, 0, 4, 8, 12, 16, 1);
        due(26, "alike", x.unlike(2, 3), 0);
        x.strike(3, 0, 3);
        dueOrder(20, "struck signs stay in order", x, 3, 0, 4, 8, 12, 16, 1);
        write(x, 3, 0, "V");
        dueOrder(20, "the latest first behind the beginning", x, 3, 24, 0, 4, 8, 12, 16, 1);
        write(x, 3, 1, "U");
        dueOrder(20, "behind the sign ahead, not ahead of the sign behind", x, 3, 24, 28, 0, 4, 8, 12, 16, 1);
        for (int p : NO_PENS) {
            due(19, "no pen", x.signs(p), -1);
            due(20, "no pen", x.order(p, 0), -1);
            due(17, "no pen", x.length(p), -1);
        }
        for (int i : new int[] {-1, 8, MIN, MAX}) {
            due(20, "no such one", x.order(3, i), -1);
        }
    }

    private static void texts() {
        ManyPens x = with("abc");
        x.all(0, 4);
        write(x, 4, 1, "X");
        x.all(4, 0);
        x.mark(0, 1, 2, 0, 1);
        x.mark(0, 2, 1, 3, 1);
        x.strike(0, 0, 1);
        due(17, "length", x.length(0), 3);
        int[][] want = {{'X', 4, 1, 4}, {'b', 1, 9, 0}, {'c', 2, 0, 0}};
        for (int i = 0; i < 3; i++) {
            for (int what = 0; what < 4; what++) {
                due(18, "place " + i + ", " + what, x.text(0, i, what), want[i][what]);
            }
            due(18, "no what", x.text(0, i, 4), -1);
            due(18, "no what", x.text(0, i, -1), -1);
        }
        for (int i : new int[] {-1, 3, MIN, MAX}) {
            for (int what = 0; what < 4; what++) {
                due(18, "no place", x.text(0, i, what), -1);
            }
        }
        for (int p : NO_PENS) {
            due(18, "no pen", x.text(p, 0, 0), -1);
        }
        due(18, "another sheet", x.text(4, 0, 0), 'a');
        due(17, "another sheet", x.length(4), 4);
    }

    private static void latestMarkDecides() {
        ManyPens x = with("abc");
        x.all(0, 1);
        x.all(0, 2);
        x.mark(1, 0, 2, 0, 1);
        x.mark(0, 1, 2, 0, 0);
        x.mark(0, 2, 1, 0, 1);
        x.mark(2, 0, 1, 0, 0);
        x.all(0, 1);
        x.all(2, 1);
        dueTints(18, "by stamp, then by pen", x, 1, 0, 1, 1);
        x.undo(2, 4);
        x.all(2, 1);
        dueTints(18, "the next latest decides", x, 1, 1, 1, 1);
        x.undo(1, 1);
        dueTints(18, "off, or none", x, 1, 0, 0, 1);
    }

    private static void places() {
        ManyPens x = with("abc");
        write(x, 0, 1, "X");
        x.strike(0, 0, 1);
        due(21, "struck", x.place(0, 0), -2);
        due(21, "first", x.place(0, 4), 0);
        due(21, "second", x.place(0, 1), 1);
        due(21, "third", x.place(0, 2), 2);
        for (int name : new int[] {3, 5, 6, 7, 8, 9, -1, -2, 1023, 1024, MIN, MAX}) {
            due(21, "no sign " + name, x.place(0, name), -3);
            due(22, "no sign " + name, x.strikers(0, name), -1);
        }
        due(21, "not there", x.place(1, 0), -3);
        x.carry(1, 1);
        due(21, "waits there", x.place(1, 4), -3);
        for (int p : NO_PENS) {
            due(21, "no pen", x.place(p, 0), -3);
            due(22, "no pen", x.strikers(p, 0), -1);
        }
        x.undo(0, 1);
        due(21, "its put is undone", x.place(0, 4), -2);
        x.undo(0, 2);
        due(21, "its strike is undone", x.place(0, 0), 0);
    }

    private static void whoStrikes() {
        ManyPens x = with("abc");
        x.all(0, 1);
        x.all(0, 2);
        x.strike(0, 0, 2);
        x.strike(1, 1, 2);
        x.strike(2, 1, 1);
        x.all(0, 2);
        due(22, "one", x.strikers(2, 0), 1);
        x.all(1, 2);
        due(22, "two", x.strikers(2, 2), 1);
        due(22, "three", x.strikers(2, 1), 3);
        due(22, "at another sheet", x.strikers(1, 1), 1);
        due(22, "none", x.strikers(1, 0), 0);
        x.undo(2, 3);
        due(22, "one undone", x.strikers(2, 1), 2);
        due(22, "still not seen", x.place(2, 1), -2);
        x.undo(0, 1);
        x.undo(1, 2);
        x.all(0, 2);
        x.all(1, 2);
        due(22, "all undone", x.strikers(2, 1), 0);
        dueText(22, "all undone", x, 2, "abc");
        due(22, "not in order", x.strikers(3, 1), -1);
    }

    private static void stretches() {
        ManyPens x = with("abc");
        write(x, 0, 3, "def");
        due(23, "none", x.spans(0, 0), 0);
        x.mark(0, 0, 1, 0, 1);
        due(23, "one", x.spans(0, 0), 1);
        x.mark(0, 2, 1, 0, 1);
        x.mark(0, 5, 1, 0, 1);
        due(23, "three", x.spans(0, 0), 3);
        due(23, "another tint", x.spans(0, 1), 0);
        x.strike(0, 1, 1);
        due(23, "they join when what is between is struck", x.spans(0, 0), 2);
        x.mark(0, 1, 2, 0, 1);
        due(23, "marks beside each other are one", x.spans(0, 0), 2);
        x.mark(0, 0, 5, 3, 1);
        due(23, "all", x.spans(0, 3), 1);
        x.mark(0, 2, 1, 3, 0);
        due(23, "a hole", x.spans(0, 3), 2);
        x.mark(0, 0, 5, 3, 0);
        due(23, "off", x.spans(0, 3), 0);
        due(23, "another sheet", x.spans(1, 0), 0);
        for (int tint : new int[] {-1, 4, MIN, MAX}) {
            due(23, "no tint", x.spans(0, tint), -1);
        }
        for (int p : NO_PENS) {
            due(23, "no pen", x.spans(p, 0), -1);
        }
    }

    private static void histories() {
        ManyPens x = new ManyPens();
        write(x, 3, 0, "a");
        write(x, 1, 0, "b");
        write(x, 1, 0, "c");
        write(x, 2, 0, "d");
        x.all(3, 5);
        x.all(1, 5);
        x.all(2, 5);
        int[] want = {1, 3, 0, 2};
        for (int i = 0; i < 4; i++) {
            due(24, "the latest last, " + i, x.history(5, i), want[i]);
        }
        for (int i : new int[] {-1, 4, MIN, MAX}) {
            due(24, "no such one", x.history(5, i), -1);
        }
        for (int p : NO_PENS) {
            due(24, "no pen", x.history(p, 0), -1);
        }
        due(24, "own ones alone", x.history(1, 1), 2);
        due(24, "no more", x.history(1, 2), -1);
        x.carry(2, 0);
        due(24, "what waits is not told", x.history(0, 0), -1);
    }

    private static void textsOfOld() {
        ManyPens x = with("abc");
        x.strike(0, 1, 1);
        write(x, 0, 1, "X");
        x.undo(0, 1);
        x.undo(0, 0);
        String[] want = {"", "abc", "ac", "aXc", "aXbc", "X"};
        for (int stamp = 0; stamp < want.length; stamp++) {
            for (int i = 0; i < want[stamp].length(); i++) {
                due(25, "stamp " + stamp + ", place " + i, x.asOf(0, stamp, i), want[stamp].charAt(i));
            }
            for (int i : new int[] {-1, want[stamp].length(), MIN, MAX}) {
                due(25, "stamp " + stamp + ", no place", x.asOf(0, stamp, i), -1);
            }
        }
        due(25, "a later stamp", x.asOf(0, MAX, 0), 'X');
        due(25, "a stamp below 0", x.asOf(0, MIN, 0), -1);
        for (int p : NO_PENS) {
            due(25, "no pen", x.asOf(p, 1, 0), -1);
        }
        dueText(25, "the text of now is not changed", x, 0, "X");
        write(x, 1, 0, "Y");
        due(25, "not taken", x.asOf(0, 1, 0), 'a');
        x.all(1, 0);
        due(25, "taken late, of an old stamp", x.asOf(0, 1, 0), 'Y');
        due(25, "another sheet", x.asOf(1, 5, 1), -1);
    }

    private static void unlikeSheets() {
        ManyPens x = with("abc");
        due(26, "nothing alike", x.unlike(0, 1), 1);
        due(26, "both empty", x.unlike(1, 2), 0);
        x.all(0, 1);
        due(26, "the same", x.unlike(0, 1), 0);
        due(26, "itself", x.unlike(0, 0), 0);
        x.mark(1, 1, 1, 2, 1);
        due(26, "other tints at 1", x.unlike(0, 1), 2);
        due(26, "the other way round", x.unlike(1, 0), 2);
        x.undo(1, 1);
        due(26, "texts alike, slips not", x.unlike(0, 1), 4);
        write(x, 1, 2, "X");
        due(26, "another name at 2", x.unlike(0, 1), 3);
        x.all(1, 0);
        due(26, "the same again", x.unlike(0, 1), 0);
        write(x, 0, 4, "Y");
        due(26, "one text is longer", x.unlike(0, 1), 5);
        x.carry(4, 1);
        due(26, "the same once more", x.unlike(0, 1), 0);
        write(x, 0, 5, "Z");
        write(x, 0, 6, "Z");
        x.all(0, 1);
        x.carry(5, 2);
        due(26, "what waits does not count", x.unlike(2, 3), 0);
        write(x, 3, 0, "a");
        due(26, "the same code with another name", x.unlike(0, 3), 1);
        for (int p : NO_PENS) {
            due(26, "no pen", x.unlike(p, 0), -1);
            due(26, "no pen", x.unlike(0, p), -1);
            due(26, "no pen twice", x.unlike(p, p), -1);
        }
    }

    private static void cursors() {
        ManyPens x = with("abc");
        done(27, "at the beginning, to the sign ahead", x, x.cursor(0, 0, 0, 0), 1);
        due(28, "at the beginning", x.where(0, 0), 0);
        done(27, "at the end, to the sign at it", x, x.cursor(0, 1, 3, 1), 1);
        due(28, "at the end", x.where(0, 1), 3);
        done(27, "at the beginning, to the sign at it", x, x.cursor(0, 2, 0, 1), 1);
        due(28, "at the first sign", x.where(0, 2), 0);
        write(x, 0, 0, "X");
        write(x, 0, 4, "Y");
        due(28, "stays at the beginning", x.where(0, 0), 0);
        due(28, "stays at the end", x.where(0, 1), 5);
        due(28, "goes with its sign", x.where(0, 2), 1);
        done(27, "told anew", x, x.cursor(0, 0, 5, 0), 1);
        due(28, "told anew", x.where(0, 0), 5);
        write(x, 0, 5, "Z");
        due(28, "stays behind its sign", x.where(0, 0), 5);
        due(28, "goes with the end", x.where(0, 1), 6);
        due(28, "another pen's cursor", x.where(1, 0), -1);
        for (int p : NO_PENS) {
            refused(27, "no pen", x, x.cursor(p, 0, 0, 0), BEYOND);
            due(28, "no pen", x.where(p, 0), -1);
        }
        for (int c : new int[] {-1, 3, MIN, MAX}) {
            refused(27, "no cursor", x, x.cursor(0, c, 0, 0), BEYOND);
            due(28, "no cursor", x.where(0, c), -1);
        }
        for (int place : new int[] {-1, 7, MIN, MAX}) {
            refused(27, "no place", x, x.cursor(0, 0, place, 0), BEYOND);
        }
        for (int lean : new int[] {-1, 2, MIN, MAX}) {
            refused(27, "no lean", x, x.cursor(0, 0, 0, lean), BEYOND);
        }
        due(27, "refused ones move nothing", x.where(0, 0), 5);
    }

    private static void cursorsAmongStruckSigns() {
        ManyPens x = with("abc");
        write(x, 0, 3, "de");
        x.cursor(0, 0, 3, 0);
        x.cursor(0, 1, 2, 1);
        due(28, "behind c", x.where(0, 0), 3);
        due(28, "at c", x.where(0, 1), 2);
        x.strike(0, 1, 2);
        due(28, "behind a", x.where(0, 0), 1);
        due(28, "at d", x.where(0, 1), 1);
        x.strike(0, 1, 2);
        due(28, "none behind: the length", x.where(0, 1), 1);
        x.strike(0, 0, 1);
        due(28, "none ahead: 0", x.where(0, 0), 0);
        due(28, "nothing seen at all", x.where(0, 1), 0);
        x.undo(0, 3);
        due(28, "at d again", x.where(0, 1), 0);
        due(28, "still none ahead", x.where(0, 0), 0);
        x.undo(0, 2);
        due(28, "behind c again", x.where(0, 0), 2);
        due(28, "at c again", x.where(0, 1), 1);
        ManyPens y = new ManyPens();
        done(27, "in an empty text, to the beginning", y, y.cursor(5, 2, 0, 0), 1);
        done(27, "in an empty text, to the end", y, y.cursor(5, 1, 0, 1), 1);
        write(y, 0, 0, "ab");
        y.all(0, 5);
        due(28, "the beginning", y.where(5, 2), 0);
        due(28, "the end", y.where(5, 1), 2);
        due(28, "never told", y.where(5, 0), -1);
    }

    private static void statuses() {
        ManyPens x = new ManyPens();
        due(29, "ahead of any act", x.status(), FINE);
        x.left(0);
        due(29, "refused", x.status(), BEYOND);
        x.length(9);
        x.state(9, 9);
        x.lacks(9, 9);
        x.slips();
        x.slip(9, 9);
        x.later(9, 9);
        x.text(9, 9, 9);
        x.signs(0);
        x.order(9, 9);
        x.place(9, 9);
        x.strikers(9, 9);
        x.spans(9, 9);
        x.history(9, 9);
        x.asOf(9, 9, 9);
        x.unlike(0, 1);
        x.where(9, 9);
        x.status();
        due(29, "asks change nothing", x.status(), BEYOND);
        write(x, 0, 0, "a");
        due(29, "an act that is done", x.status(), FINE);
        x.bound(0);
        due(29, "refused", x.status(), KIND);
        x.length(0);
        x.state(0, 0);
        x.text(0, 0, 0);
        due(29, "asks change nothing", x.status(), KIND);
        x.part(0, 0);
        due(29, "part is an act", x.status(), FINE);
        x.strike(0, 0, -1);
        due(29, "refused", x.status(), NEGATIVE);
        x.left(0);
        due(29, "left is an act", x.status(), FINE);
        x.undo(1, 0);
        due(29, "refused", x.status(), OTHER);
        x.carry(0, 0);
        due(29, "carry is an act, though it changes nothing", x.status(), FINE);
        x.undo(0, 0);
        x.undo(0, 0);
        due(29, "refused", x.status(), STILL);
        x.undone(1);
        due(29, "undone is an act", x.status(), FINE);
    }

    /** All 768 SIGNS that there can be: half of the PUTS at the beginning, half at the end. */
    private static void mostSigns() {
        ManyPens x = new ManyPens();
        for (int i = 0; i < 254; i++) {
            due(2, "put " + i, x.type(0, i % 2 == 0 ? 0 : 3 * i, 'a', 'b', 'c'), i);
        }
        x.all(0, 1);
        write(x, 1, 762, "def");
        write(x, 0, 0, "xyz");
        x.all(0, 1);
        x.all(1, 0);
        due(19, "most signs", x.signs(1), 768);
        due(17, "most seen", x.length(1), 768);
        due(20, "first", x.order(1, 0), 4 * 255);
        due(20, "last", x.order(1, 767), 4 * 254 + 2);
        due(18, "last", x.text(1, 767, 0), 'f');
        due(21, "last", x.place(1, 4 * 254 + 2), 767);
        due(22, "last", x.strikers(1, 4 * 254 + 2), 0);
        due(23, "no tint", x.spans(1, 0), 0);
        due(24, "latest", x.history(1, 255), 254);
        due(25, "last but three", x.asOf(1, 254, 761), 'c');
        due(25, "no more then", x.asOf(1, 254, 762), -1);
        due(26, "the same", x.unlike(0, 1), 0);
        done(27, "behind the last", x, x.cursor(1, 0, 768, 0), 1);
        due(28, "behind the last", x.where(1, 0), 768);
        done(27, "at the end", x, x.cursor(1, 1, 768, 1), 1);
        due(28, "at the end", x.where(1, 1), 768);
        done(7, "to a third", x, x.all(1, 2), 256);
        due(19, "there too", x.signs(2), 768);
        due(26, "the same there", x.unlike(2, 1), 0);
        x.all(0, 3);
        due(26, "the same as one that got all", x.unlike(3, 2), 0);
        due(26, "other than an empty one", x.unlike(4, 2), 1);
        due(26, "and the other way round", x.unlike(2, 4), 1);
    }

    /** A chain: each PUT stands behind the one ahead of it; MARKS that grow and UNDOS among them. */
    private static void longChain() {
        ManyPens x = new ManyPens();
        for (int i = 0; i < 250; i++) {
            x.type(i % 2, i, 'a' + i % 26, -1, -1);
            x.carry(i, 1 - i % 2);
        }
        due(20, "last of the chain", x.order(0, 249), 4 * 249);
        due(11, "its stamp", x.slip(249, 1), 250);
        x.mark(0, 0, 250, 2, 3);
        x.strike(0, 100, 12);
        x.undo(1, 1);
        x.all(0, 1);
        due(17, "without 13", x.length(1), 237);
        due(23, "one stretch", x.spans(1, 2), 1);
        due(18, "the last has it", x.text(1, 236, 2), 4);
    }

    /** Calls about different SHEETS by turns. */
    private static void sheetsByTurns() {
        ManyPens x = with("abc");
        write(x, 1, 0, "de");
        x.strike(0, 0, 1);
        int[] lengths = {2, 2, 0};
        int[] signs = {3, 2, 0};
        int[] firsts = {1, 4, -1};
        int[] seconds = {1, 5, -1};
        int[] places = {-2, -3, -3};
        int[] struck = {1, -1, -1};
        for (int turn = 0; turn < 6; turn++) {
            int p = turn % 3;
            due(17, "by turns", x.length(p), lengths[p]);
            due(19, "by turns", x.signs((p + 1) % 3), signs[(p + 1) % 3]);
            due(18, "by turns", x.text(p, 0, 1), firsts[p]);
            due(20, "by turns", x.order((p + 1) % 3, 1), seconds[(p + 1) % 3]);
            due(21, "by turns", x.place(p, 0), places[p]);
            due(22, "by turns", x.strikers((p + 1) % 3, 0), struck[(p + 1) % 3]);
            due(21, "by turns", x.place((p + 2) % 3, 0), places[(p + 2) % 3]);
            due(22, "by turns", x.strikers(p, 0), struck[p]);
        }
        x.length(2);
        done(27, "a place of its own sheet", x, x.cursor(0, 0, 2, 0), 1);
        x.length(2);
        due(28, "at its own sheet", x.where(0, 0), 2);
        x.length(0);
        refused(27, "no place of its own sheet", x, x.cursor(2, 0, 1, 0), BEYOND);
        due(26, "nothing alike", x.unlike(0, 1), 1);
        due(26, "nothing to compare", x.unlike(2, 1), 1);
        x.mark(1, 0, 1, 0, 1);
        x.all(1, 2);
        x.length(0);
        due(23, "of its own sheet", x.spans(2, 0), 1);
        due(23, "of another sheet", x.spans(0, 0), 0);
    }

    private static void alikeByTints() {
        ManyPens x = with("abc");
        x.mark(0, 0, 3, 0, 1);
        x.all(0, 1);
        x.mark(1, 1, 1, 0, 1);
        due(26, "tints are the same, slips are not", x.unlike(0, 1), 4);
        x.mark(0, 0, 1, 0, 0);
        due(26, "tints differ at once", x.unlike(0, 1), 1);
        x.mark(0, 0, 1, 0, 1);
        x.mark(0, 2, 1, 1, 1);
        due(26, "tints differ at the last", x.unlike(0, 1), 3);
        ManyPens y = new ManyPens();
        write(y, 0, 0, "a");
        y.all(0, 1);
        write(y, 0, 1, "b");
        write(y, 1, 0, "c");
        due(26, "first place differs", y.unlike(0, 1), 1);
        y.undo(1, 2);
        due(26, "one is longer", y.unlike(0, 1), 2);
        due(26, "the other is longer", y.unlike(1, 0), 2);
    }

    /** A MARK's FIRST may be lacked while its LAST is there. */
    private static void needsOfFirst() {
        ManyPens x = with("a");
        write(x, 1, 0, "b");
        x.all(1, 0);
        x.mark(0, 0, 2, 1, 3);
        due(12, "first is the other's", x.part(2, 0), 4);
        due(14, "the end", x.bound(2), -2);
        x.carry(0, 2);
        due(6, "first is not there", x.carry(2, 2), 0);
        due(9, "first's put is lacked", x.lacks(2, 2), 1);
        due(6, "first comes", x.carry(1, 2), 2);
    }

    private static void actsThatAreDone() {
        ManyPens x = new ManyPens();
        for (int act = 0; act < 7; act++) {
            x.undo(0, 300);
            due(29, "refused ahead of act " + act, x.status(), BEYOND);
            switch (act) {
                case 0: write(x, 0, 0, "abc"); break;
                case 1: x.strike(0, 0, 1); break;
                case 2: x.mark(0, 0, 2, 1, 3); break;
                case 3: x.undo(0, 1); break;
                case 4: x.all(0, 1); break;
                case 5: x.cursor(0, 0, 0, 0); break;
                default: x.bound(2);
            }
            due(29, "act " + act + " is done", x.status(), FINE);
        }
    }

    public static void main(String[] args) {
        newObject();
        typing();
        typingRefused();
        typingFull();
        stillAheadOfFull();
        striking();
        strikingRefused();
        marking();
        boundIsNextInOrder();
        coversWhatIsStruckOrCarried();
        boundOfOwnSheet();
        markingRefused();
        undoing();
        undoingOthers();
        carrying();
        needs();
        needsOfLeftAndUndone();
        allOver();
        states();
        lacking();
        aboutSlips();
        parts();
        leftsBoundsAndUndones();
        whatIsLater();
        ordering();
        texts();
        latestMarkDecides();
        places();
        whoStrikes();
        stretches();
        histories();
        textsOfOld();
        unlikeSheets();
        cursors();
        cursorsAmongStruckSigns();
        statuses();
        mostSigns();
        longChain();
        sheetsByTurns();
        alikeByTints();
        needsOfFirst();
        actsThatAreDone();
        end();
    }
}
