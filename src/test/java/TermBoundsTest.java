/** The document's Terms: each of their sentences that names a boundary. */
public final class TermBoundsTest extends Checks {

    // ---- STAMP

    /** "(1, if there are none)": of each PEN, and also if SLIPS wait there. */
    private static void stampOfTheFirst() {
        ManyPens x = new ManyPens();
        for (int p = 0; p < 6; p++) {
            write(x, p, 0, "a");
            due(TERMS, "the first stamp of pen " + p, x.slip(p, 1), 1);
        }
        ManyPens y = with("a");
        write(y, 0, 0, "b");
        write(y, 0, 0, "c");
        y.carry(2, 1);
        write(y, 1, 0, "d");
        due(TERMS, "what waits is not taken", y.slip(3, 1), 1);
    }

    /** "one more than the greatest STAMP of the SLIPS that are TAKEN": not of the newest, not of the PEN's own. */
    private static void stampOverTheGreatest() {
        ManyPens x = with("a");
        write(x, 0, 0, "b");
        write(x, 0, 0, "c");
        write(x, 1, 0, "d");
        x.all(0, 2);
        x.carry(3, 2);
        write(x, 2, 0, "e");
        due(TERMS, "one of a lower stamp came last", x.slip(4, 1), 4);
        x.all(2, 1);
        write(x, 1, 0, "f");
        due(TERMS, "greater than its own by far", x.slip(5, 1), 5);
        write(x, 0, 0, "g");
        due(TERMS, "others' stamps that did not come", x.slip(6, 1), 4);
    }

    /** TAKEN, but undone: its STAMP counts on, as does that of each KIND. */
    private static void stampOfEachKind() {
        ManyPens x = with("a");
        x.mark(0, 0, 1, 0, 1);
        x.strike(0, 0, 1);
        x.undo(0, 2);
        x.undo(0, 3);
        for (int slip = 0; slip < 5; slip++) {
            due(TERMS, "stamp of slip " + slip, x.slip(slip, 1), slip + 1);
        }
        x.all(0, 1);
        write(x, 1, 0, "b");
        due(TERMS, "the latest is an undo", x.slip(5, 1), 6);
    }

    /** A refused ACT takes no STAMP, and no number. */
    private static void stampBehindARefusedAct() {
        ManyPens x = with("a");
        x.type(0, 5, 'b', -1, -1);
        x.strike(0, 0, 0);
        x.undo(0, 7);
        due(TERMS, "the next number", write(x, 0, 0, "c"), 1);
        due(TERMS, "the next stamp", x.slip(1, 1), 2);
    }

    /** The greatest STAMP that there can be. */
    private static void stampOfTheLast() {
        ManyPens x = filled(MOST_SLIPS);
        due(TERMS, "the first of 256", x.slip(0, 1), 1);
        due(TERMS, "the last of 256", x.slip(255, 1), 256);
    }

    // ---- NAME

    /** "a NAME: 4 times its PUT's number, and its place in that (0, 1, 2)" */
    private static void namesFromFirstToLast() {
        ManyPens x = with("abc");
        fill(x, 1, 255);
        write(x, 0, 0, "xyz");
        for (int i = 0; i < 3; i++) {
            due(TERMS, "of slip 0", x.part(0, i), i);
            due(TERMS, "of slip 255", x.part(255, i), 1020 + i);
            due(TERMS, "the last one's place", x.place(0, 1020 + i), i);
            due(TERMS, "the first one's place", x.place(0, i), 257 + i);
        }
        due(TERMS, "no fourth sign of slip 0", x.place(0, 3), -3);
        due(TERMS, "no fourth sign of slip 255", x.place(0, 1023), -3);
        due(TERMS, "no second sign of slip 1", x.place(0, 5), -3);
    }

    // ---- GOT, NEEDS, TAKEN

    /** "(its own PEN has it at once)" */
    private static void ownSlipsAreTakenAtOnce() {
        ManyPens x = with("ab");
        x.strike(0, 0, 1);
        x.mark(0, 0, 1, 0, 3);
        x.undo(0, 1);
        for (int slip = 0; slip < 4; slip++) {
            due(TERMS, "taken: " + slip, x.state(0, slip), slip == 1 ? 2 : 3);
        }
    }

    /** "the SLIP that its PEN made latest ahead of it": that one alone, whatever its KIND, and no other PEN's. */
    private static void needsThePensLatest() {
        ManyPens x = with("a");
        x.mark(0, 0, 1, 0, 1);
        write(x, 1, 0, "z");
        write(x, 0, 0, "b");
        x.carry(3, 2);
        due(TERMS, "the latest of its pen", x.lacks(2, 3), 1);
        done(TERMS, "the first of a pen needs none", x, x.carry(2, 2), 1);
        x.carry(1, 2);
        done(TERMS, "all are taken now", x, x.carry(0, 2), 3);
    }

    /** "the PUTS of all SIGNS that it has": of twelve struck ones, whichever comes last. */
    private static void needsOfTwelveStruckSigns() {
        int[][] orders = {{0, 1, 2, 3}, {3, 2, 1, 0}, {1, 2, 3, 0}, {0, 1, 3, 2}};
        for (int[] order : orders) {
            ManyPens x = new ManyPens();
            for (int p = 0; p < 4; p++) {
                write(x, p, 0, "abc");
            }
            for (int p = 0; p < 4; p++) {
                x.all(p, 4);
            }
            x.strike(4, 0, 12);
            due(TERMS, "the first is pen 3's", x.part(4, 0), 12);
            due(TERMS, "the last is pen 0's", x.part(4, 11), 2);
            x.carry(4, 5);
            for (int k = 0; k < 4; k++) {
                due(TERMS, "put " + order[k], x.carry(order[k], 5), k == 3 ? 2 : 1);
            }
            due(TERMS, "all are struck", x.length(5), 0);
        }
    }

    /** PENS 0, 1 and 2 each put one SIGN; PEN 3 has all of them, in ORDER 8, 4, 0. */
    private static ManyPens threePensAtOne() {
        ManyPens x = new ManyPens();
        for (int p = 0; p < 3; p++) {
            write(x, p, 0, "a");
        }
        for (int p = 0; p < 3; p++) {
            x.all(p, 3);
        }
        return x;
    }

    /** What SLIP 3 lacks at SHEET 4 when all PUTS but one are there. */
    private static int lackedWithout(ManyPens x, int put) {
        for (int slip = 0; slip < 3; slip++) {
            if (slip != put) {
                x.carry(slip, 4);
            }
        }
        x.carry(3, 4);
        return x.lacks(4, 3);
    }

    /** "FIRST, LAST, BOUND": each of them alone, and not what stands between; no BOUND if it doesn't GROW. */
    private static void needsOfMarks() {
        for (int put = 0; put < 3; put++) {
            ManyPens x = threePensAtOne();
            x.mark(3, 0, 2, 0, 3);
            due(TERMS, "first, last and bound, without " + put, lackedWithout(x, put), put);

            ManyPens y = threePensAtOne();
            y.mark(3, 0, 2, 0, 1);
            due(TERMS, "first and last, without " + put, lackedWithout(y, put), put == 0 ? NONE : put);

            ManyPens z = threePensAtOne();
            z.mark(3, 0, 3, 0, 3);
            due(TERMS, "first, last and the end, without " + put, lackedWithout(z, put), put == 1 ? NONE : put);
        }
    }

    /** "LEFT": its PUT alone, not what stands behind that; the BEGINNING is no SIGN. */
    private static void needsOfPuts() {
        for (int put = 0; put < 3; put++) {
            for (int place = 0; place <= 3; place++) {
                ManyPens x = threePensAtOne();
                write(x, 3, place, "b");
                int left = place == 0 ? NONE : 3 - place;
                due(TERMS, "place " + place + ", without " + put, lackedWithout(x, put), put == left ? put : NONE);
            }
        }
    }

    private static void carryAs(int[] order) {
        ManyPens x = with("ab");
        x.all(0, 1);
        write(x, 1, 1, "X");
        x.all(1, 0);
        x.strike(0, 0, 2);
        x.mark(1, 0, 3, 2, 3);
        x.undo(0, 2);
        int taken = 0;
        for (int slip : order) {
            taken += x.carry(slip, 5);
        }
        due(TERMS, "all are taken, each counted once", taken, 5);
        x.all(1, 0);
        due(TERMS, "the same as at pen 0", x.unlike(0, 5), 0);
        dueTints(TERMS, "the same tints", x, 5, 4, 4, 4);
        dueOrder(TERMS, "the same order", x, 5, 0, 4, 1);
    }

    private static void carryInAllOrders(int[] order, int done) {
        if (done == order.length) {
            carryAs(order);
            return;
        }
        for (int k = done; k < order.length; k++) {
            int[] next = order.clone();
            next[done] = order[k];
            next[k] = order[done];
            carryInAllOrders(next, done + 1);
        }
    }

    /** "(So TAKEN ones are as many as can be, in whatever order they came.)": all 120 orders of five SLIPS. */
    private static void takenInAnyOrder() {
        carryInAllOrders(new int[] {0, 1, 2, 3, 4}, 0);
    }

    // ---- ORDER

    /** "the PUTS whose LEFT is x, the LATEST first": by STAMP, then by PEN, at the BEGINNING and behind a SIGN. */
    private static void orderOfPutsAtOnePlace() {
        ManyPens x = with("a");
        for (int p = 1; p < 6; p++) {
            x.all(0, p);
        }
        for (int p = 0; p < 6; p++) {
            write(x, p, 1, "b");
        }
        write(x, 2, 0, "c");
        write(x, 1, 0, "d");
        for (int p = 1; p < 6; p++) {
            x.all(p, 0);
        }
        dueOrder(TERMS, "equal stamps", x, 0, 28, 32, 0, 24, 20, 16, 12, 8, 4);
        write(x, 0, 3, "e");
        due(TERMS, "a greater stamp of the least pen", x.order(0, 3), 36);
    }

    /** Of equal STAMPS the greater PEN's stands first, whichever was made first. */
    private static void orderOfPutsMadeBackwards() {
        ManyPens x = new ManyPens();
        for (int p = 5; p >= 0; p--) {
            write(x, p, 0, "ab");
        }
        for (int p = 0; p < 5; p++) {
            x.all(p, 5);
        }
        dueOrder(TERMS, "at the beginning", x, 5, 0, 1, 4, 5, 8, 9, 12, 13, 16, 17, 20, 21);
        ManyPens y = new ManyPens();
        write(y, 3, 0, "a");
        for (int p = 0; p < 6; p++) {
            y.all(3, p);
        }
        for (int p = 5; p >= 0; p--) {
            write(y, p, 1, "b");
        }
        for (int p = 1; p < 6; p++) {
            y.all(p, 0);
        }
        dueOrder(TERMS, "behind a sign", y, 0, 0, 4, 8, 12, 16, 20, 24);
    }

    /** "each PUT is its first SIGN, what stands behind that, its second SIGN, what stands behind that" */
    private static void orderBehindEachSign() {
        ManyPens x = with("abc");
        x.all(0, 1);
        for (int place = 3; place >= 0; place--) {
            write(x, 1, place, "X");
        }
        dueOrder(TERMS, "behind each and ahead of all", x, 1, 16, 0, 12, 1, 8, 2, 4);
        x.all(1, 0);
        dueOrder(TERMS, "there too", x, 0, 16, 0, 12, 1, 8, 2, 4);
    }

    /** What is not SEEN stays in its place, with all that stands behind it. */
    private static void orderOfWhatIsNotSeen() {
        ManyPens x = with("ab");
        x.all(0, 1);
        write(x, 1, 1, "X");
        x.strike(0, 0, 2);
        x.undo(0, 0);
        x.all(1, 0);
        dueOrder(TERMS, "behind a struck sign of an undone put", x, 0, 0, 4, 1);
        dueText(TERMS, "it is seen alone", x, 0, "X");
    }

    /** As deep as PUTS can stand behind each other, and as many as can stand at one place. */
    private static void orderOfMostPuts() {
        ManyPens x = new ManyPens();
        for (int slip = 0; slip < MOST_SLIPS; slip++) {
            due(TERMS, "one behind the first of the other", x.type(0, slip, 'a', 'b', 'c'), slip);
        }
        due(TERMS, "all first signs stand ahead", x.order(0, 255), 1020);
        due(TERMS, "the last one's others follow", x.order(0, 256), 1021);
        due(TERMS, "the first one's last is last", x.order(0, 767), 2);
        ManyPens y = filled(MOST_SLIPS);
        due(TERMS, "all at the beginning, the latest first", y.order(0, 0), 1020);
        due(TERMS, "all at the beginning, the first one last", y.order(0, 255), 0);
    }

    // ---- WORKS, SEEN

    /** "no UNDO that WORKS undoes it": UNDOS of UNDOS, as many as there can be. */
    private static void worksUnderUndos() {
        ManyPens x = with("a");
        for (int slip = 0; slip < 255; slip++) {
            x.undo(0, slip);
        }
        due(TERMS, "256 slips", x.slips(), MOST_SLIPS);
        x.all(0, 1);
        for (int p = 0; p < 2; p++) {
            due(TERMS, "the last works", x.state(p, 255), 3);
            for (int slip = 0; slip < 255; slip++) {
                if (slip < 4 || slip > 250) {
                    due(TERMS, "every second works: " + slip, x.state(p, slip), slip % 2 == 0 ? 2 : 3);
                }
            }
        }
        for (int stamp = 1; stamp <= 8; stamp++) {
            due(TERMS, "by turns of old: " + stamp, x.asOf(1, stamp, 0), stamp % 2 == 1 ? 'a' : NONE);
        }
        due(TERMS, "last of old", x.asOf(1, 255, 0), 'a');
    }

    /** Two UNDOS that undo the same: one that WORKS is enough. */
    private static void worksUnderTwoUndos() {
        ManyPens x = with("a");
        x.undo(0, 0);
        x.undo(0, 1);
        x.undo(0, 0);
        x.undo(0, 2);
        due(TERMS, "both work", x.state(0, 1) + x.state(0, 3), 6);
        due(TERMS, "undone twice", x.state(0, 0), 2);
        x.undo(0, 3);
        due(TERMS, "undone once", x.state(0, 0), 2);
        x.undo(0, 1);
        due(TERMS, "undone no more", x.state(0, 0), 3);
    }

    /** "A SIGN is SEEN if its PUT WORKS and no STRIKE that WORKS has it": both must hold. */
    private static void seenOnlyIfBothHold() {
        ManyPens x = with("a");
        due(TERMS, "both hold", x.length(0), 1);
        x.strike(0, 0, 1);
        due(TERMS, "struck", x.length(0), 0);
        x.undo(0, 0);
        due(TERMS, "struck, and its put is undone", x.length(0), 0);
        x.undo(0, 1);
        due(TERMS, "its put is undone", x.length(0), 0);
        x.undo(0, 2);
        due(TERMS, "both hold again", x.length(0), 1);
    }

    // ---- COVERS, TINT

    /** "from its FIRST to its LAST": both of them, no other one, and what comes between. */
    private static void coversFromFirstToLast() {
        ManyPens x = with("abc");
        write(x, 0, 3, "de");
        x.mark(0, 1, 3, 0, 1);
        dueTints(TERMS, "the first and the last, no neighbour", x, 0, 0, 1, 1, 1, 0);
        write(x, 0, 1, "X");
        write(x, 0, 3, "Y");
        write(x, 0, 6, "Z");
        dueTints(TERMS, "what comes between alone", x, 0, 0, 0, 1, 1, 1, 1, 0, 0);
        x.mark(0, 0, 1, 3, 1);
        dueTints(TERMS, "one sign", x, 0, 8, 0, 1, 1, 1, 1, 0, 0);
    }

    /** "if it GROWS, those behind LAST that are ahead of BOUND": not the BOUND, and not ahead of FIRST. */
    private static void coversUpToTheBound() {
        ManyPens x = with("abc");
        x.mark(0, 1, 1, 0, 3);
        write(x, 0, 2, "X");
        write(x, 0, 3, "Y");
        write(x, 0, 1, "Z");
        dueTints(TERMS, "up to the bound", x, 0, 0, 0, 1, 1, 1, 0);
        x.strike(0, 5, 1);
        write(x, 0, 5, "V");
        dueTints(TERMS, "ahead of a bound that is struck", x, 0, 0, 0, 1, 1, 1, 1);
        x.undo(0, 5);
        dueTints(TERMS, "the bound itself is not", x, 0, 0, 0, 1, 1, 1, 1, 0);
    }

    /** "(or, if that is the END, all behind LAST)" */
    private static void coversUpToTheEnd() {
        ManyPens x = with("ab");
        x.mark(0, 1, 1, 0, 3);
        x.mark(0, 0, 2, 1, 1);
        for (int place = 2; place <= 4; place++) {
            write(x, 0, place, "X");
        }
        dueTints(TERMS, "all behind the last", x, 0, 2, 3, 1, 1, 1);
    }

    /** FIRST and LAST need not be SEEN. */
    private static void coversBetweenWhatIsNotSeen() {
        ManyPens x = with("a");
        write(x, 0, 1, "b");
        write(x, 0, 2, "c");
        x.mark(0, 0, 3, 2, 3);
        x.undo(0, 0);
        x.strike(0, 1, 1);
        dueTints(TERMS, "what is between", x, 0, 4);
        write(x, 0, 1, "d");
        dueTints(TERMS, "what comes between", x, 0, 4, 4);
        write(x, 0, 0, "e");
        dueTints(TERMS, "ahead of all", x, 0, 0, 4, 4);
    }

    /** "of the MARKS of that TINT that WORK and COVER it, the LATEST is ON": none is not ON. */
    private static void tintOfTheLatest() {
        ManyPens x = with("ab");
        x.all(0, 1);
        x.mark(0, 0, 1, 0, 1);
        x.mark(1, 0, 2, 0, 0);
        x.mark(1, 1, 1, 1, 1);
        x.all(1, 0);
        x.all(0, 1);
        dueTints(TERMS, "of equal stamps the greater pen's", x, 0, 0, 2);
        dueTints(TERMS, "whatever came first", x, 1, 0, 2);
        x.undo(1, 2);
        dueTints(TERMS, "the next latest that works", x, 1, 1, 2);
        x.undo(1, 3);
        dueTints(TERMS, "none is left at the second", x, 1, 1, 0);
        x.mark(0, 1, 1, 0, 1);
        x.mark(1, 0, 1, 0, 0);
        x.all(0, 1);
        dueTints(TERMS, "a latest one that does not cover it", x, 1, 0, 1);
    }

    /** The LATEST is not the one of the greatest number. */
    private static void tintOfEqualStamps() {
        for (int pen = 0; pen < 2; pen++) {
            ManyPens x = with("a");
            x.all(0, 1);
            x.mark(pen, 0, 1, 0, pen);
            x.mark(1 - pen, 0, 1, 0, 1 - pen);
            due(TERMS, "equal stamps", x.slip(1, 1), x.slip(2, 1));
            x.all(0, 1);
            x.all(1, 0);
            due(TERMS, "pen 1's is on, made as slip " + (2 - pen), x.text(0, 0, 2), 1);
            due(TERMS, "at the other sheet too", x.text(1, 0, 2), 1);
        }
    }

    /** As many MARKS as there can be. */
    private static void tintOfMostMarks() {
        ManyPens x = with("ab");
        for (int slip = 1; slip < MOST_SLIPS; slip++) {
            x.mark(0, slip % 2, 1, slip % 4, slip < 252 ? 1 : 0);
        }
        due(TERMS, "256 slips", x.slips(), MOST_SLIPS);
        dueTints(TERMS, "the last four decide", x, 0, 0, 0);
        due(TERMS, "no stretch", x.spans(0, 1), 0);
    }

    public static void main(String[] args) {
        stampOfTheFirst();
        stampOverTheGreatest();
        stampOfEachKind();
        stampBehindARefusedAct();
        stampOfTheLast();
        namesFromFirstToLast();
        ownSlipsAreTakenAtOnce();
        needsThePensLatest();
        needsOfTwelveStruckSigns();
        needsOfMarks();
        needsOfPuts();
        takenInAnyOrder();
        orderOfPutsAtOnePlace();
        orderOfPutsMadeBackwards();
        orderBehindEachSign();
        orderOfWhatIsNotSeen();
        orderOfMostPuts();
        worksUnderUndos();
        worksUnderTwoUndos();
        seenOnlyIfBothHold();
        coversFromFirstToLast();
        coversUpToTheBound();
        coversUpToTheEnd();
        coversBetweenWhatIsNotSeen();
        tintOfTheLatest();
        tintOfEqualStamps();
        tintOfMostMarks();
        end();
    }
}
