/** Promises 6 to 9, what is carried: each sentence of theirs that names a boundary. */
public final class CarryBoundsTest extends Checks {

    /** PEN 0 wrote that many SLIPS, each behind the one ahead of it. */
    private static ManyPens chain(int slips) {
        ManyPens x = new ManyPens();
        for (int i = 0; i < slips; i++) {
            x.type(0, i, 'a' + i % 26, -1, -1);
        }
        return x;
    }

    // ---- promise 6

    /** "BEYOND: there is no such PEN" */
    private static void carryToPens() {
        ManyPens x = chain(1);
        for (int p : NO_PENS) {
            refused(6, "no pen " + p, x, x.carry(0, p), BEYOND);
        }
        done(6, "pen 0, who has it", x, x.carry(0, 0), 0);
        done(6, "pen 1", x, x.carry(0, 1), 1);
        done(6, "pen 5", x, x.carry(0, 5), 1);
    }

    /** "or no such SLIP" */
    private static void carryOfSlips() {
        ManyPens x = chain(2);
        for (int slip : noSlips(2)) {
            refused(6, "no slip " + slip, x, x.carry(slip, 1), BEYOND);
        }
        due(6, "nothing was got", x.state(1, 0), 0);
        done(6, "the first", x, x.carry(0, 1), 1);
        done(6, "the last", x, x.carry(1, 1), 1);
        write(x, 0, 2, "c");
        due(6, "one that was made since, which was no slip", x.state(1, 2), 0);
    }

    /** The last of 256 SLIPS. */
    private static void carryOfTheLastSlip() {
        ManyPens x = filled(MOST_SLIPS - 1);
        write(x, 1, 0, "z");
        for (int slip : noSlips(MOST_SLIPS)) {
            refused(6, "no slip " + slip, x, x.carry(slip, 2), BEYOND);
        }
        done(6, "the last", x, x.carry(255, 2), 1);
        done(6, "the first", x, x.carry(0, 2), 1);
        done(6, "the last of the filling", x, x.carry(254, 2), 0);
        due(6, "two are taken", x.signs(2), 2);
    }

    /** "Answers how many SLIPS are TAKEN there now that were not ahead of this": none. */
    private static void carryThatTakesNone() {
        ManyPens x = chain(2);
        done(6, "it waits", x, x.carry(1, 1), 0);
        done(6, "it waits and comes again", x, x.carry(1, 1), 0);
        x.carry(0, 1);
        done(6, "it is taken and comes again", x, x.carry(1, 1), 0);
        done(6, "to its own pen", x, x.carry(1, 0), 0);
        x.undo(0, 1);
        x.carry(2, 1);
        done(6, "it is undone and comes again", x, x.carry(1, 1), 0);
        due(6, "three are taken", x.history(1, 2), 2);
        due(6, "no more", x.history(1, 3), NONE);
    }

    /** "how many SLIPS are TAKEN there now that were not": as many as can be at once. */
    private static void carryThatTakesMany() {
        int many = 250;
        ManyPens x = chain(many);
        for (int slip = many - 1; slip > 0; slip--) {
            due(6, "waits", x.carry(slip, 1), 0);
        }
        due(6, "all wait", x.length(1), 0);
        done(6, "the first one lets all be taken", x, x.carry(0, 1), many);
        due(6, "all are taken", x.length(1), many);
        due(6, "the same", x.unlike(0, 1), 0);
    }

    /** Only what waits at that SHEET is counted, and only what can be taken there. */
    private static void carryCountsOneSheet() {
        ManyPens x = chain(4);
        x.carry(1, 1);
        x.carry(3, 1);
        x.carry(1, 2);
        done(6, "up to the one that is lacked", x, x.carry(0, 1), 2);
        due(6, "the other sheet still waits", x.state(2, 1), 1);
        due(6, "the last one still waits", x.state(1, 3), 1);
        done(6, "the one that was lacked", x, x.carry(2, 1), 2);
    }

    // ---- promise 7

    /** "BEYOND: there is no such PEN" */
    private static void allOfPens() {
        ManyPens x = chain(1);
        for (int p : NO_PENS) {
            refused(7, "from no pen " + p, x, x.all(p, 1), BEYOND);
            refused(7, "to no pen " + p, x, x.all(0, p), BEYOND);
            refused(7, "from and to no pen " + p, x, x.all(p, p), BEYOND);
        }
        due(7, "nothing was got", x.state(1, 0), 0);
        done(7, "from 0 to 5", x, x.all(0, 5), 1);
        done(7, "from 5 to 1", x, x.all(5, 1), 1);
        done(7, "from 5 to 0, who has it", x, x.all(5, 0), 0);
    }

    /** From and to an empty SHEET, and to itself. */
    private static void allOfNothing() {
        ManyPens x = chain(2);
        done(7, "from an empty sheet", x, x.all(1, 0), 0);
        due(7, "nothing is lost", x.length(0), 2);
        done(7, "to itself", x, x.all(0, 0), 0);
        done(7, "between empty sheets", x, x.all(1, 2), 0);
        done(7, "to an empty sheet", x, x.all(0, 1), 2);
        done(7, "again", x, x.all(0, 1), 0);
        done(7, "back", x, x.all(1, 0), 0);
    }

    /** "all SLIPS that are TAKEN": those that WAIT are not GOT by the other one. */
    private static void allOfWhatIsTaken() {
        ManyPens x = chain(3);
        x.carry(0, 1);
        x.carry(2, 1);
        done(7, "one is taken there, one waits", x, x.all(1, 2), 1);
        due(7, "taken", x.state(2, 0), 3);
        due(7, "waits there, not got here", x.state(2, 2), 0);
        done(7, "to itself, which waits on", x, x.all(1, 1), 0);
        due(7, "waits on", x.state(1, 2), 1);
    }

    /** TAKEN, but undone: it is carried too. */
    private static void allOfWhatDoesNotWork() {
        ManyPens x = chain(1);
        x.undo(0, 0);
        done(7, "both", x, x.all(0, 1), 2);
        due(7, "the put", x.state(1, 0), 2);
        due(7, "the undo", x.state(1, 1), 3);
    }

    /** "Answers how many are TAKEN there now that were not ahead of this": also those that waited. */
    private static void allCountsWhatWaited() {
        ManyPens x = chain(3);
        x.carry(0, 1);
        x.carry(1, 1);
        x.carry(2, 2);
        done(7, "two came, and one had waited", x, x.all(1, 2), 3);
    }

    /** All of 256 SLIPS. */
    private static void allOfMost() {
        ManyPens x = filled(MOST_SLIPS);
        done(7, "256 at once", x, x.all(0, 5), MOST_SLIPS);
        done(7, "none again", x, x.all(0, 5), 0);
        done(7, "256 from there on", x, x.all(5, 1), MOST_SLIPS);
        due(7, "the same", x.unlike(0, 1), 0);
    }

    // ---- promise 8

    /** "0 not GOT, 1 it WAITS, 2 it is TAKEN, but doesn't WORK, 3 it WORKS" */
    private static void stateOfEachKind() {
        ManyPens x = chain(2);
        due(8, "works at its own pen's at once", x.state(0, 1), 3);
        for (int p = 1; p < 6; p++) {
            due(8, "not got by pen " + p, x.state(p, 1), 0);
        }
        x.carry(1, 1);
        due(8, "waits", x.state(1, 1), 1);
        due(8, "what it waits for is not got", x.state(1, 0), 0);
        x.carry(0, 1);
        due(8, "works", x.state(1, 1), 3);
        x.undo(0, 1);
        due(8, "undone at its own pen's", x.state(0, 1), 2);
        due(8, "not undone where the undo did not come", x.state(1, 1), 3);
        x.carry(2, 1);
        due(8, "undone there too", x.state(1, 1), 2);
        due(8, "the undo works", x.state(1, 2), 3);
    }

    /** An UNDO that WAITS undoes nothing yet. */
    private static void stateUnderAWaitingUndo() {
        ManyPens x = chain(2);
        x.undo(0, 0);
        x.carry(0, 1);
        x.carry(2, 1);
        due(8, "the undo waits", x.state(1, 2), 1);
        due(8, "what it undoes works", x.state(1, 0), 3);
        due(8, "and is seen", x.length(1), 1);
        x.carry(1, 1);
        due(8, "the undo works", x.state(1, 2), 3);
        due(8, "what it undoes does not", x.state(1, 0), 2);
    }

    /** "NONE: there is no such PEN" */
    private static void stateOfPens() {
        ManyPens x = chain(1);
        for (int p : NO_PENS) {
            due(8, "no pen " + p, x.state(p, 0), NONE);
        }
        due(8, "pen 0", x.state(0, 0), 3);
        due(8, "pen 5", x.state(5, 0), 0);
    }

    /** "or no such SLIP" */
    private static void stateOfSlips() {
        ManyPens x = chain(2);
        for (int slip : noSlips(2)) {
            due(8, "no slip " + slip, x.state(0, slip), NONE);
            due(8, "no slip " + slip + ", another pen", x.state(5, slip), NONE);
        }
        due(8, "the first", x.state(0, 0), 3);
        due(8, "the last", x.state(0, 1), 3);
        ManyPens y = filled(MOST_SLIPS);
        for (int slip : noSlips(MOST_SLIPS)) {
            due(8, "no slip of 256: " + slip, y.state(0, slip), NONE);
        }
        due(8, "the last of 256", y.state(0, 255), 3);
    }

    // ---- promise 9

    /** "NONE: it doesn't WAIT there" */
    private static void lacksOfWhatDoesNotWait() {
        ManyPens x = chain(2);
        x.undo(0, 1);
        due(9, "works", x.lacks(0, 0), NONE);
        due(9, "taken, does not work", x.lacks(0, 1), NONE);
        due(9, "not got, though it would lack one", x.lacks(1, 1), NONE);
        due(9, "not got, and lacks none", x.lacks(1, 0), NONE);
        x.carry(1, 1);
        due(9, "waits", x.lacks(1, 1), 0);
        x.carry(0, 1);
        due(9, "waits no more", x.lacks(1, 1), NONE);
    }

    /** "or there is no such PEN" */
    private static void lacksOfPens() {
        ManyPens x = chain(2);
        x.carry(1, 5);
        for (int p : NO_PENS) {
            due(9, "no pen " + p, x.lacks(p, 1), NONE);
        }
        due(9, "pen 5", x.lacks(5, 1), 0);
        write(x, 5, 0, "z");
        write(x, 5, 0, "y");
        x.carry(3, 0);
        due(9, "pen 0", x.lacks(0, 3), 2);
    }

    /** "or no such SLIP" */
    private static void lacksOfSlips() {
        ManyPens x = chain(2);
        x.carry(1, 1);
        for (int slip : noSlips(2)) {
            due(9, "no slip " + slip, x.lacks(1, slip), NONE);
        }
        ManyPens y = filled(MOST_SLIPS);
        y.carry(255, 1);
        for (int slip : noSlips(MOST_SLIPS)) {
            due(9, "no slip of 256: " + slip, y.lacks(1, slip), NONE);
        }
        due(9, "the last of 256", y.lacks(1, 255), 254);
    }

    /** "the least SLIP that [it] NEEDS and that is not TAKEN there": not the least one that is not TAKEN. */
    private static void lacksTheLeastThatItNeeds() {
        ManyPens x = chain(3);
        x.carry(2, 1);
        due(9, "it needs the last one ahead of it alone", x.lacks(1, 2), 1);
        x.carry(1, 1);
        due(9, "that is got now, but not taken", x.lacks(1, 2), 1);

        ManyPens y = new ManyPens();
        for (int p = 0; p < 4; p++) {
            write(y, p, 0, "a");
            y.all(p, 4);
        }
        y.strike(4, 0, 4);
        y.carry(4, 5);
        for (int least = 0; least < 4; least++) {
            due(9, "the least of several", y.lacks(5, 4), least);
            y.carry(least, 5);
        }
        due(9, "lacks none", y.lacks(5, 4), NONE);
        due(9, "works", y.state(5, 4), 3);
    }

    /** Of its PEN's latest and the PUT of its LEFT: the least, whichever that is. */
    private static void lacksThePensLatestOrTheLeft() {
        ManyPens x = with("a");
        write(x, 1, 0, "b");
        x.all(0, 1);
        write(x, 1, 2, "c");
        due(9, "left is the other's", x.left(2), 0);
        x.carry(2, 2);
        due(9, "left's put is less than the pen's latest", x.lacks(2, 2), 0);
        x.carry(0, 2);
        due(9, "the pen's latest is left over", x.lacks(2, 2), 1);
        x.carry(2, 3);
        x.carry(1, 3);
        due(9, "left's put is left over", x.lacks(3, 2), 0);
        x.all(1, 0);
        write(x, 0, 1, "d");
        due(9, "left is the other's again", x.left(3), 4);
        x.carry(3, 4);
        due(9, "the pen's latest is less than left's put", x.lacks(4, 3), 0);
        x.carry(0, 4);
        due(9, "left's put is left over again", x.lacks(4, 3), 1);
    }

    /** PENS 0 and 1 each put a SIGN, that one first; PEN 2 has both, PEN 1's standing first. */
    private static ManyPens twoPutsAtOne(int firstPen) {
        ManyPens x = new ManyPens();
        write(x, firstPen, 0, "a");
        write(x, 1 - firstPen, 0, "b");
        x.all(0, 2);
        x.all(1, 2);
        due(9, "pen 1's stands first", x.text(2, 0, 3), 1);
        return x;
    }

    /** Of two PUTS of one STRIKE or MARK: the least, whether it stands first or last. */
    private static void lacksTheLeastOfTwoPuts() {
        for (int firstPen = 0; firstPen < 2; firstPen++) {
            ManyPens x = twoPutsAtOne(firstPen);
            x.strike(2, 0, 2);
            x.carry(2, 3);
            due(9, "a strike lacks the least", x.lacks(3, 2), 0);

            ManyPens y = twoPutsAtOne(firstPen);
            y.mark(2, 0, 2, 0, 1);
            y.mark(2, 0, 1, 0, 3);
            y.carry(2, 3);
            due(9, "first and last: the least", y.lacks(3, 2), 0);
            y.carry(3, 4);
            due(9, "first and bound, and the pen's latest: the least", y.lacks(4, 3), 0);
        }
    }

    /** "and the SLIP that it undoes": less than its PEN's latest, or the same one. */
    private static void lacksWhatItUndoes() {
        ManyPens x = chain(3);
        x.undo(0, 0);
        x.undo(0, 3);
        x.carry(3, 1);
        due(9, "what it undoes is less than the pen's latest", x.lacks(1, 3), 0);
        x.carry(0, 1);
        due(9, "the pen's latest is left over", x.lacks(1, 3), 2);
        x.carry(4, 1);
        due(9, "what it undoes is the pen's latest", x.lacks(1, 4), 3);
        x.carry(1, 1);
        done(9, "none is lacked", x, x.carry(2, 1), 3);
        due(9, "the undo of the undo is taken", x.state(1, 4), 3);
    }

    public static void main(String[] args) {
        carryToPens();
        carryOfSlips();
        carryOfTheLastSlip();
        carryThatTakesNone();
        carryThatTakesMany();
        carryCountsOneSheet();
        allOfPens();
        allOfNothing();
        allOfWhatIsTaken();
        allOfWhatDoesNotWork();
        allCountsWhatWaited();
        allOfMost();
        stateOfEachKind();
        stateUnderAWaitingUndo();
        stateOfPens();
        stateOfSlips();
        lacksOfWhatDoesNotWait();
        lacksOfPens();
        lacksOfSlips();
        lacksTheLeastThatItNeeds();
        lacksThePensLatestOrTheLeft();
        lacksTheLeastOfTwoPuts();
        lacksWhatItUndoes();
        end();
    }
}
