/** Promises 17 to 26, texts: each sentence of theirs that names a boundary. */
public final class TextBoundsTest extends Checks {

    /** At PENS 0 and 5 the TEXT "acd" of four SIGNS, b being struck; the other SHEETS are empty. */
    private static ManyPens threeSeenOfFour() {
        ManyPens x = with("abc");
        write(x, 0, 3, "d");
        x.strike(0, 1, 1);
        x.all(0, 5);
        return x;
    }

    /** PEN 0 puts three SIGNS at a time behind the last one, 256 times. */
    private static ManyPens ofMostSigns() {
        ManyPens x = new ManyPens();
        for (int slip = 0; slip < MOST_SLIPS; slip++) {
            x.type(0, 3 * slip, slip % 256, slip % 7, 255 - slip % 256);
        }
        return x;
    }

    // ---- promise 17

    /** "how long the TEXT of PEN p's SHEET is": none, one, all, and of SEEN SIGNS alone. */
    private static void lengthOfTexts() {
        ManyPens x = new ManyPens();
        due(17, "empty", x.length(0), 0);
        write(x, 0, 0, "a");
        due(17, "one", x.length(0), 1);
        due(17, "another sheet", x.length(1), 0);
        x.strike(0, 0, 1);
        due(17, "all are struck", x.length(0), 0);
        x.undo(0, 1);
        due(17, "seen again", x.length(0), 1);
        x.undo(0, 0);
        due(17, "its put is undone", x.length(0), 0);
        due(17, "the most", ofMostSigns().length(0), 768);
    }

    /** "NONE: there is no such PEN" */
    private static void lengthOfPens() {
        ManyPens x = threeSeenOfFour();
        for (int p : NO_PENS) {
            due(17, "no pen " + p, x.length(p), NONE);
        }
        due(17, "pen 0", x.length(0), 3);
        due(17, "pen 5", x.length(5), 3);
    }

    // ---- promise 18

    /** "NONE: there is no such PEN" */
    private static void textOfPens() {
        ManyPens x = threeSeenOfFour();
        for (int what = 0; what < 4; what++) {
            for (int p : NO_PENS) {
                due(18, "no pen " + p + ", " + what, x.text(p, 0, what), NONE);
            }
            due(18, "pens 0 and 5, " + what, x.text(5, 0, what), x.text(0, 0, what));
        }
        due(18, "pen 0", x.text(0, 0, 0), 'a');
    }

    /** "no such PLACE" */
    private static void textAtPlaces() {
        ManyPens x = threeSeenOfFour();
        for (int what = 0; what < 4; what++) {
            for (int i : outside(0, 2)) {
                due(18, "no place " + i + ", " + what, x.text(0, i, what), NONE);
            }
            due(18, "an empty text, " + what, x.text(1, 0, what), NONE);
            due(18, "ahead of an empty text, " + what, x.text(1, -1, what), NONE);
        }
        due(18, "the first", x.text(0, 0, 1), 0);
        due(18, "the last", x.text(0, 2, 1), 4);
        x.strike(0, 0, 3);
        due(18, "all are struck", x.text(0, 0, 1), NONE);
        ManyPens y = ofMostSigns();
        due(18, "the last of the most", y.text(0, 767, 1), 1022);
        due(18, "its code", y.text(0, 767, 0), 0);
        due(18, "behind it", y.text(0, 768, 1), NONE);
    }

    /** "another what" */
    private static void textOfWhats() {
        ManyPens x = threeSeenOfFour();
        for (int what : outside(0, 3)) {
            due(18, "what " + what, x.text(0, 0, what), NONE);
            due(18, "neither what nor place", x.text(0, 3, what), NONE);
            due(18, "neither what nor pen", x.text(6, 0, what), NONE);
        }
        due(18, "the least what", x.text(0, 2, 0), 'd');
        due(18, "the greatest what", x.text(5, 2, 3), 0);
    }

    /** "the TINTS (the sum of 2^t for each TINT t that it has)": none of them up to all of them. */
    private static void textOfTints() {
        ManyPens x = with("ab");
        int sum = 0;
        due(18, "none", x.text(0, 0, 2), 0);
        for (int tint = 3; tint >= 0; tint--) {
            x.mark(0, 0, 1, tint, 1);
            sum += 1 << tint;
            due(18, "from tint " + tint + " on", x.text(0, 0, 2), sum);
        }
        due(18, "all", x.text(0, 0, 2), 15);
        due(18, "the next sign has none", x.text(0, 1, 2), 0);
        x.mark(0, 0, 1, 3, 0);
        due(18, "the greatest is off", x.text(0, 0, 2), 7);
        x.mark(0, 0, 1, 0, 0);
        due(18, "the least is off", x.text(0, 0, 2), 6);
    }

    /** "the PEN who put it": 0 to 5, at any SHEET. */
    private static void textOfWhoPutIt() {
        ManyPens x = new ManyPens();
        for (int p = 0; p < 6; p++) {
            write(x, p, 0, "a");
        }
        for (int p = 0; p < 6; p++) {
            x.all(p, 3);
        }
        for (int i = 0; i < 6; i++) {
            due(18, "the greatest pen first", x.text(3, i, 3), 5 - i);
        }
    }

    // ---- promise 19

    /** "how many SIGNS are in ORDER": none, SEEN or not, not what WAITS, up to the most. */
    private static void signsFromNoneToMost() {
        ManyPens x = with("abc");
        write(x, 0, 3, "d");
        x.carry(1, 1);
        due(19, "what waits", x.signs(1), 0);
        due(19, "all", x.signs(0), 4);
        x.strike(0, 0, 4);
        due(19, "all are struck", x.signs(0), 4);
        x.undo(0, 0);
        due(19, "a put is undone", x.signs(0), 4);
        due(19, "another sheet", x.signs(5), 0);
        due(19, "the most", ofMostSigns().signs(0), 768);
    }

    /** "NONE: there is no such PEN" */
    private static void signsOfPens() {
        ManyPens x = threeSeenOfFour();
        for (int p : NO_PENS) {
            due(19, "no pen " + p, x.signs(p), NONE);
        }
        due(19, "pen 0", x.signs(0), 4);
        due(19, "pen 5", x.signs(5), 4);
    }

    // ---- promise 20

    /** "NONE: there is no such PEN, no such one" */
    private static void orderOfPensAndSpots() {
        ManyPens x = threeSeenOfFour();
        for (int p : NO_PENS) {
            due(20, "no pen " + p, x.order(p, 0), NONE);
        }
        for (int i : outside(0, 3)) {
            due(20, "no spot " + i, x.order(0, i), NONE);
            due(20, "no spot " + i + " of an empty sheet", x.order(1, i), NONE);
        }
        due(20, "spot 0 of an empty sheet", x.order(1, 0), NONE);
        due(20, "the first", x.order(0, 0), 0);
        due(20, "a struck one", x.order(0, 1), 1);
        due(20, "the last, of pen 5", x.order(5, 3), 4);
        ManyPens y = ofMostSigns();
        due(20, "the last of the most", y.order(0, 767), 1022);
        due(20, "behind it", y.order(0, 768), NONE);
    }

    // ---- promise 21

    /** "-2: it is in ORDER there, but not SEEN" */
    private static void placeOfWhatIsNotSeen() {
        ManyPens x = threeSeenOfFour();
        due(21, "struck", x.place(0, 1), -2);
        due(21, "the first", x.place(0, 0), 0);
        due(21, "behind the struck one", x.place(0, 2), 1);
        due(21, "the last", x.place(5, 4), 2);
        x.undo(0, 1);
        due(21, "its put is undone", x.place(0, 4), -2);
        x.strike(0, 0, 1);
        due(21, "the first is struck", x.place(0, 0), -2);
        due(21, "not at the other sheet", x.place(5, 0), 0);
    }

    /** "-3: it isn't" */
    private static void placeOfWhatIsNotThere() {
        ManyPens x = threeSeenOfFour();
        int[] names = {MIN, -4, -3, -2, -1, 3, 5, 6, 7, 8, 9, 10, 11, 12, 1020, 1023, 1024, MAX - 3, MAX};
        for (int name : names) {
            due(21, "no sign " + name, x.place(0, name), -3);
        }
        for (int name : new int[] {0, 1, 2, 4}) {
            due(21, "not at an empty sheet", x.place(1, name), -3);
        }
        x.carry(1, 2);
        due(21, "it waits", x.place(2, 4), -3);
        x.carry(0, 2);
        due(21, "it is taken", x.place(2, 4), 3);
        ManyPens y = ofMostSigns();
        due(21, "the greatest name", y.place(0, 1022), 767);
        due(21, "behind it", y.place(0, 1023), -3);
        due(21, "no slip has it", y.place(0, 1024), -3);
    }

    /** "or there is no such PEN": -3, not NONE. */
    private static void placeOfPens() {
        ManyPens x = threeSeenOfFour();
        for (int p : NO_PENS) {
            due(21, "no pen " + p, x.place(p, 0), -3);
            due(21, "no pen " + p + ", not seen", x.place(p, 1), -3);
            due(21, "no pen " + p + ", no sign", x.place(p, 3), -3);
        }
        due(21, "pen 0", x.place(0, 2), 1);
        due(21, "pen 5", x.place(5, 2), 1);
    }

    // ---- promise 22

    /** "NONE: there is no such PEN, or the SIGN isn't in ORDER there" */
    private static void strikersOfPensAndNames() {
        ManyPens x = threeSeenOfFour();
        for (int p : NO_PENS) {
            due(22, "no pen " + p, x.strikers(p, 1), NONE);
        }
        for (int name : new int[] {MIN, -2, -1, 3, 5, 7, 8, 11, 1020, 1023, 1024, MAX}) {
            due(22, "no sign " + name, x.strikers(0, name), NONE);
        }
        due(22, "not at an empty sheet", x.strikers(1, 1), NONE);
        x.carry(1, 2);
        due(22, "its put waits", x.strikers(2, 4), NONE);
        due(22, "none, of name 0", x.strikers(0, 0), 0);
        due(22, "one", x.strikers(0, 1), 1);
        due(22, "one, at pen 5", x.strikers(5, 1), 1);
        due(22, "the greatest name", ofMostSigns().strikers(0, 1022), 0);
    }

    /** "how many STRIKES that WORK": none up to one of each PEN; not what WAITS, not what is undone. */
    private static void strikersFromNoneToAllPens() {
        ManyPens x = with("abc");
        for (int p = 1; p < 6; p++) {
            x.all(0, p);
        }
        for (int p = 0; p < 6; p++) {
            x.strike(p, 1, 1);
            x.all(p, 0);
            due(22, "struck by pens up to " + p, x.strikers(0, 1), p + 1);
        }
        due(22, "the sign ahead", x.strikers(0, 0), 0);
        due(22, "the sign behind", x.strikers(0, 2), 0);
        for (int p = 0; p < 6; p++) {
            x.undo(p, 1 + p);
            x.all(p, 0);
            due(22, "undone by pens up to " + p, x.strikers(0, 1), 5 - p);
            due(22, "seen when none is left", x.place(0, 1), p == 5 ? 1 : -2);
        }
        write(x, 1, 0, "z");
        x.strike(1, 0, 1);
        x.carry(14, 2);
        due(22, "the strike waits", x.state(2, 14), 1);
        due(22, "its sign is not there", x.strikers(2, 52), NONE);
    }

    /** A STRIKE of a SIGN whose PUT is undone counts on. */
    private static void strikersOfUndonePuts() {
        ManyPens x = with("a");
        x.strike(0, 0, 1);
        x.undo(0, 0);
        due(22, "the put is undone", x.strikers(0, 0), 1);
        x.undo(0, 1);
        due(22, "the strike is undone too", x.strikers(0, 0), 0);
        due(22, "and it is not seen", x.place(0, 0), -2);
    }

    // ---- promise 23

    /** "NONE: there is no such PEN, tint is not 0 to 3" */
    private static void spansOfPensAndTints() {
        ManyPens x = with("abc");
        x.mark(0, 0, 1, 0, 1);
        x.mark(0, 2, 1, 3, 1);
        x.all(0, 5);
        for (int p : NO_PENS) {
            due(23, "no pen " + p, x.spans(p, 0), NONE);
            due(23, "neither pen nor tint", x.spans(p, 4), NONE);
        }
        for (int tint : outside(0, 3)) {
            due(23, "no tint " + tint, x.spans(0, tint), NONE);
            due(23, "no tint " + tint + ", an empty text", x.spans(1, tint), NONE);
        }
        due(23, "the least tint", x.spans(0, 0), 1);
        due(23, "the greatest tint, pen 5", x.spans(5, 3), 1);
        due(23, "another tint", x.spans(0, 1), 0);
        due(23, "an empty text", x.spans(1, 0), 0);
    }

    /** "SIGNS that follow each other and have it are one" */
    private static void spansThatMeet() {
        ManyPens x = with("abc");
        write(x, 0, 3, "def");
        x.mark(0, 0, 1, 0, 1);
        x.mark(0, 5, 1, 0, 1);
        due(23, "at the first and at the last", x.spans(0, 0), 2);
        x.mark(0, 1, 1, 0, 1);
        due(23, "two marks that meet", x.spans(0, 0), 2);
        x.mark(0, 3, 1, 0, 1);
        due(23, "one sign without it between", x.spans(0, 0), 3);
        x.strike(0, 2, 1);
        due(23, "that one is struck", x.spans(0, 0), 2);
        x.strike(0, 3, 1);
        due(23, "all are one", x.spans(0, 0), 1);
        x.strike(0, 0, 4);
        due(23, "none is seen", x.spans(0, 0), 0);
        x.undo(0, 8);
        due(23, "one again", x.spans(0, 0), 1);
        x.mark(0, 0, 4, 0, 0);
        due(23, "all are off", x.spans(0, 0), 0);
    }

    /** Every second SIGN: as many stretches as there can be in a TEXT of that length. */
    private static void spansThatAreMany() {
        ManyPens x = new ManyPens();
        for (int i = 0; i < 30; i++) {
            write(x, 0, 0, "ab");
            x.mark(0, 0, 1, 2, 1);
            due(23, "after put " + i, x.spans(0, 2), i + 1);
        }
    }

    // ---- promise 24

    /** "NONE: there is no such PEN, no such one" */
    private static void historyOfPensAndNumbers() {
        ManyPens x = threeSeenOfFour();
        for (int p : NO_PENS) {
            due(24, "no pen " + p, x.history(p, 0), NONE);
        }
        for (int i : outside(0, 2)) {
            due(24, "no such one " + i, x.history(0, i), NONE);
            due(24, "no such one " + i + " of an empty sheet", x.history(1, i), NONE);
        }
        due(24, "the first of an empty sheet", x.history(1, 0), NONE);
        due(24, "the first", x.history(0, 0), 0);
        due(24, "the last, of pen 5", x.history(5, 2), 2);
        x.carry(2, 1);
        due(24, "what waits is none", x.history(1, 0), NONE);
        ManyPens y = filled(MOST_SLIPS);
        due(24, "the first of 256", y.history(0, 0), 0);
        due(24, "the last of 256", y.history(0, 255), 255);
        due(24, "behind the last of 256", y.history(0, 256), NONE);
    }

    /** "the LATEST last": of equal STAMPS by PEN, whatever came first; undone ones are told too. */
    private static void historyByAge() {
        ManyPens x = new ManyPens();
        for (int p = 5; p >= 0; p--) {
            write(x, p, 0, "a");
        }
        for (int slip = 0; slip < 6; slip++) {
            x.carry(slip, 2);
        }
        for (int i = 0; i < 6; i++) {
            due(24, "by pen", x.history(2, i), 5 - i);
        }
        x.undo(2, 3);
        due(24, "an undone one stays", x.history(2, 2), 3);
        due(24, "the undo is the latest", x.history(2, 6), 6);
    }

    // ---- promise 25

    /** "NONE: there is no such PEN, no such PLACE" */
    private static void asOfPensAndPlaces() {
        ManyPens x = threeSeenOfFour();
        for (int p : NO_PENS) {
            due(25, "no pen " + p, x.asOf(p, 3, 0), NONE);
        }
        String[] texts = {"", "abc", "abcd", "acd", "acd"};
        for (int stamp = 0; stamp < texts.length; stamp++) {
            int length = texts[stamp].length();
            for (int i = 0; i < length; i++) {
                due(25, "stamp " + stamp + ", place " + i, x.asOf(0, stamp, i), texts[stamp].charAt(i));
                due(25, "stamp " + stamp + ", place " + i + ", pen 5", x.asOf(5, stamp, i), texts[stamp].charAt(i));
            }
            for (int i : outside(0, length - 1)) {
                due(25, "stamp " + stamp + ", no place " + i, x.asOf(0, stamp, i), NONE);
            }
            due(25, "stamp " + stamp + ", an empty sheet", x.asOf(1, stamp, 0), NONE);
        }
    }

    /** "those with a STAMP of at most that": any number is one, there need be no SLIP of it. */
    private static void asOfStamps() {
        ManyPens x = threeSeenOfFour();
        for (int stamp : new int[] {MIN, -1, 0}) {
            due(25, "before all: " + stamp, x.asOf(0, stamp, 0), NONE);
        }
        due(25, "the least stamp", x.asOf(0, 1, 1), 'b');
        for (int stamp : new int[] {3, 4, 256, 257, MAX}) {
            due(25, "all: " + stamp, x.asOf(0, stamp, 1), 'c');
            due(25, "all, the last: " + stamp, x.asOf(0, stamp, 2), 'd');
        }
        ManyPens y = filled(MOST_SLIPS);
        due(25, "all but the last of 256", y.asOf(0, 255, 255), NONE);
        due(25, "the last of them", y.asOf(0, 255, 254), 'f');
        due(25, "all of 256", y.asOf(0, 256, 255), 'f');
        due(25, "no more", y.asOf(0, 256, 256), NONE);
    }

    /** "of the SLIPS that are TAKEN there": others of such a STAMP do not count, late ones do. */
    private static void asOfWhatIsTaken() {
        ManyPens x = with("a");
        write(x, 5, 0, "z");
        write(x, 5, 0, "y");
        due(25, "not got", x.asOf(0, 1, 0), 'a');
        x.carry(2, 0);
        due(25, "it waits", x.asOf(0, 2, 0), 'a');
        x.carry(1, 0);
        due(25, "late, of equal stamp", x.asOf(0, 1, 0), 'z');
        due(25, "behind it", x.asOf(0, 1, 1), 'a');
        due(25, "no more of stamp 1", x.asOf(0, 1, 2), NONE);
        due(25, "stamp 2", x.asOf(0, 2, 0), 'y');
    }

    /** An UNDO of a greater STAMP has undone nothing yet. */
    private static void asOfUndos() {
        ManyPens x = with("a");
        x.undo(0, 0);
        x.undo(0, 1);
        x.undo(0, 0);
        int[] firsts = {NONE, 'a', NONE, 'a', NONE};
        for (int stamp = 0; stamp < firsts.length; stamp++) {
            due(25, "stamp " + stamp, x.asOf(0, stamp, 0), firsts[stamp]);
        }
    }

    // ---- promise 26

    /** "NONE: there is no such PEN" */
    private static void unlikeOfPens() {
        ManyPens x = threeSeenOfFour();
        for (int p : NO_PENS) {
            due(26, "no pen " + p + " first", x.unlike(p, 0), NONE);
            due(26, "no pen " + p + " second", x.unlike(0, p), NONE);
            due(26, "no pen " + p + " twice", x.unlike(p, p), NONE);
        }
        due(26, "pens 0 and 5", x.unlike(0, 5), 0);
        due(26, "pens 5 and 0", x.unlike(5, 0), 0);
        due(26, "itself", x.unlike(5, 5), 0);
    }

    /** "0 if the SHEETS of two PENS have the same SLIPS TAKEN": whatever waits, and not if texts are alike. */
    private static void unlikeBySlips() {
        ManyPens x = with("a");
        due(26, "two empty sheets", x.unlike(1, 2), 0);
        x.strike(0, 0, 1);
        due(26, "two empty texts, other slips", x.unlike(0, 1), 1);
        x.carry(1, 1);
        due(26, "what waits does not count", x.unlike(1, 2), 0);
        x.carry(0, 1);
        due(26, "the same", x.unlike(0, 1), 0);
        x.undo(0, 1);
        due(26, "the undo is not there", x.unlike(0, 1), 1);
        x.undo(0, 2);
        due(26, "two empty texts, again other slips", x.unlike(0, 1), 1);
        x.all(0, 1);
        due(26, "the same again", x.unlike(0, 1), 0);
    }

    /** "1 more than how many PLACES, from the first one on, have the same NAME and the same TINTS" */
    private static void unlikeByPlaces() {
        ManyPens x = with("abc");
        due(26, "one text is empty", x.unlike(0, 1), 1);
        due(26, "the other text is empty", x.unlike(1, 0), 1);
        x.all(0, 1);
        x.all(0, 2);
        x.mark(0, 2, 1, 3, 1);
        due(26, "tints differ at the last", x.unlike(0, 1), 3);
        x.mark(1, 0, 1, 0, 1);
        due(26, "tints differ at the first", x.unlike(0, 1), 1);
        x.mark(2, 0, 3, 1, 0);
        x.mark(2, 2, 1, 3, 1);
        due(26, "all places are alike, slips are not", x.unlike(0, 2), 4);
        x.strike(2, 2, 1);
        due(26, "one is shorter", x.unlike(0, 2), 3);
        due(26, "the other way round", x.unlike(2, 0), 3);
        x.strike(2, 0, 1);
        due(26, "names differ at the first", x.unlike(0, 2), 1);
    }

    /** The same CODES with other NAMES are not the same, nor the same PLACE behind one that differs. */
    private static void unlikeByNames() {
        ManyPens x = with("abc");
        write(x, 1, 0, "abc");
        due(26, "the same codes", x.unlike(0, 1), 1);
        x.all(0, 2);
        write(x, 2, 1, "b");
        x.strike(2, 2, 1);
        due(26, "the same again behind one that differs", x.unlike(0, 2), 2);
        x.all(1, 3);
        write(x, 3, 3, "d");
        due(26, "alike from the first on, which is not name 0", x.unlike(1, 3), 4);
        due(26, "the other way round", x.unlike(3, 1), 4);
    }

    /** As long as TEXTS can be. */
    private static void unlikeOfMost() {
        ManyPens x = new ManyPens();
        for (int slip = 0; slip < MOST_SLIPS - 1; slip++) {
            x.type(0, 3 * slip, 'a', 'b', 'c');
        }
        x.all(0, 1);
        due(26, "the same", x.unlike(0, 1), 0);
        x.type(0, 765, 'a', 'b', 'c');
        due(26, "the last slip is not there", x.unlike(0, 1), 766);
        due(26, "the other way round", x.unlike(1, 0), 766);
    }

    public static void main(String[] args) {
        lengthOfTexts();
        lengthOfPens();
        textOfPens();
        textAtPlaces();
        textOfWhats();
        textOfTints();
        textOfWhoPutIt();
        signsFromNoneToMost();
        signsOfPens();
        orderOfPensAndSpots();
        placeOfWhatIsNotSeen();
        placeOfWhatIsNotThere();
        placeOfPens();
        strikersOfPensAndNames();
        strikersFromNoneToAllPens();
        strikersOfUndonePuts();
        spansOfPensAndTints();
        spansThatMeet();
        spansThatAreMany();
        historyOfPensAndNumbers();
        historyByAge();
        asOfPensAndPlaces();
        asOfStamps();
        asOfWhatIsTaken();
        asOfUndos();
        unlikeOfPens();
        unlikeBySlips();
        unlikeByPlaces();
        unlikeByNames();
        unlikeOfMost();
        end();
    }
}
