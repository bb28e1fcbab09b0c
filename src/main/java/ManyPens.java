import java.util.Arrays;

/**
 * One text under six pens that never ask one another. The words in capitals are those of the
 * document: PEN, SHEET, SLIP, SIGN, ORDER, TEXT and so on.
 */
public final class ManyPens {
    public static final int NONE = -1;
    public static final int EDGE = -2;

    private static final int PENS = 6;
    private static final int MOST_SLIPS = 256;
    private static final int MOST_PUT = 3;
    private static final int MOST_STRUCK = 12;
    private static final int MOST_SIGNS = MOST_SLIPS * MOST_PUT;
    private static final int NAMES = MOST_SLIPS * 4;
    private static final int MOST_CODE = 255;
    private static final int TINTS = 4;
    private static final int HOWS = 4;
    private static final int CURSORS = 3;

    private static final int NO_BOUND = -3;
    private static final int NOT_SEEN = -2;
    private static final int NOT_THERE = -3;
    /** No STAMP is above this, as each one is at most one more than that of a SLIP made ahead. */
    private static final int ANY_STAMP = MOST_SLIPS;

    // The KINDS of SLIPS.
    private static final int PUT = 0;
    private static final int STRIKE = 1;
    private static final int MARK = 2;
    private static final int UNDO = 3;

    // How a SLIP is at a SHEET, as state() tells it.
    private static final int NOT_GOT = 0;
    private static final int WAITS = 1;
    private static final int TAKEN = 2;
    private static final int WORKS = 3;

    // The FINDINGS.
    private static final int FINE = 0;
    private static final int BEYOND = 1;
    private static final int FULL = 2;
    private static final int OTHER = 3;
    private static final int STILL = 4;
    private static final int NEGATIVE = 5;
    private static final int KIND = 6;

    private final Book book;
    private final Sheet[] sheets;
    private final Reading reading;
    private final int[] looks;
    private int finding;

    public ManyPens() {
        book = new Book();
        sheets = new Sheet[PENS];
        for (int p = 0; p < PENS; p++) {
            sheets[p] = new Sheet(p);
        }
        reading = new Reading(book);
        looks = new int[MOST_SIGNS];
        finding = FINE;
    }

    // ---- what pens do

    public int type(int p, int place, int a, int b, int c) {
        Sheet sheet = sheetOf(p);
        if (sheet == null) {
            return refuse(BEYOND);
        }
        reading.read(sheet, ANY_STAMP);
        int[] codes = codesAheadOfNone(a, b, c);
        if (place < 0 || place > reading.textSize || !arePutCodes(codes)) {
            return refuse(BEYOND);
        }
        if (book.isFull()) {
            return refuse(FULL);
        }
        int left = place == 0 ? EDGE : reading.nameAt(place - 1);
        return enter(sheet, new Put(book.count, sheet, left, codes));
    }

    public int strike(int p, int from, int n) {
        Sheet sheet = sheetOf(p);
        if (sheet == null) {
            return refuse(BEYOND);
        }
        if (n < 0) {
            return refuse(NEGATIVE);
        }
        reading.read(sheet, ANY_STAMP);
        if (n > MOST_STRUCK || !reading.hasStretch(from, n)) {
            return refuse(BEYOND);
        }
        if (book.isFull()) {
            return refuse(FULL);
        }
        return enter(sheet, new Strike(book.count, sheet, reading.namesFrom(from, n)));
    }

    public int mark(int p, int from, int n, int tint, int how) {
        Sheet sheet = sheetOf(p);
        if (sheet == null) {
            return refuse(BEYOND);
        }
        if (n < 0) {
            return refuse(NEGATIVE);
        }
        reading.read(sheet, ANY_STAMP);
        if (!reading.hasStretch(from, n) || !isTint(tint) || how < 0 || how >= HOWS) {
            return refuse(BEYOND);
        }
        if (book.isFull()) {
            return refuse(FULL);
        }
        int first = reading.nameAt(from);
        int last = reading.nameAt(from + n - 1);
        int bound = how >= 2 ? reading.nextBehind(last) : NO_BOUND;
        return enter(sheet, new Mark(book.count, sheet, first, last, bound, tint, how % 2 == 1));
    }

    public int undo(int p, int slip) {
        Sheet sheet = sheetOf(p);
        Slip target = book.find(slip);
        if (sheet == null || target == null) {
            return refuse(BEYOND);
        }
        if (target.pen != p) {
            return refuse(OTHER);
        }
        reading.read(sheet, ANY_STAMP);
        if (!reading.isWorking(target)) {
            return refuse(STILL);
        }
        if (book.isFull()) {
            return refuse(FULL);
        }
        return enter(sheet, new Undo(book.count, sheet, target.number));
    }

    // ---- what is carried

    public int carry(int slip, int p) {
        Sheet sheet = sheetOf(p);
        Slip carried = book.find(slip);
        if (sheet == null || carried == null) {
            return refuse(BEYOND);
        }
        sheet.get(carried);
        return done(sheet.settle(book));
    }

    public int all(int from, int to) {
        Sheet giver = sheetOf(from);
        Sheet taker = sheetOf(to);
        if (giver == null || taker == null) {
            return refuse(BEYOND);
        }
        for (int i = 0; i < book.count; i++) {
            Slip one = book.slips[i];
            if (giver.hasTaken(one)) {
                taker.get(one);
            }
        }
        return done(taker.settle(book));
    }

    public int state(int p, int slip) {
        Sheet sheet = sheetOf(p);
        Slip asked = book.find(slip);
        if (sheet == null || asked == null) {
            return NONE;
        }
        reading.read(sheet, ANY_STAMP);
        return reading.isWorking(asked) ? WORKS : sheet.held[asked.number];
    }

    public int lacks(int p, int slip) {
        Sheet sheet = sheetOf(p);
        Slip asked = book.find(slip);
        if (sheet == null || asked == null || sheet.held[asked.number] != WAITS) {
            return NONE;
        }
        return sheet.leastMissing(asked);
    }

    // ---- slips

    public int slips() {
        return book.count;
    }

    public int slip(int slip, int what) {
        Slip asked = book.find(slip);
        if (asked == null) {
            return NONE;
        }
        switch (what) {
            case 0:
                return asked.pen;
            case 1:
                return asked.stamp;
            case 2:
                return asked.kind();
            case 3:
                return asked.size();
            default:
                return NONE;
        }
    }

    public int part(int slip, int i) {
        Slip asked = book.find(slip);
        if (asked == null) {
            return refuse(BEYOND);
        }
        if (asked.kind() == UNDO) {
            return refuse(KIND);
        }
        if (i < 0 || i >= asked.size()) {
            return refuse(BEYOND);
        }
        return done(asked.nameOf(i));
    }

    public int left(int slip) {
        Slip asked = book.find(slip);
        if (asked == null) {
            return refuse(BEYOND);
        }
        return asked instanceof Put put ? done(put.left) : refuse(KIND);
    }

    public int bound(int slip) {
        Slip asked = book.find(slip);
        if (asked == null) {
            return refuse(BEYOND);
        }
        return asked instanceof Mark mark ? done(mark.bound) : refuse(KIND);
    }

    public int undone(int slip) {
        Slip asked = book.find(slip);
        if (asked == null) {
            return refuse(BEYOND);
        }
        return asked instanceof Undo undo ? done(undo.undone) : refuse(KIND);
    }

    public boolean later(int one, int other) {
        Slip first = book.find(one);
        Slip second = book.find(other);
        return first != null && second != null && first.isLaterThan(second);
    }

    // ---- texts

    public int length(int p) {
        return read(p) ? reading.textSize : NONE;
    }

    public int text(int p, int i, int what) {
        if (!read(p) || !reading.isPlace(i)) {
            return NONE;
        }
        switch (what) {
            case 0:
                return book.codeOf(reading.nameAt(i));
            case 1:
                return reading.nameAt(i);
            case 2:
                reading.paint();
                return reading.tintsAt(i);
            case 3:
                return book.penOf(reading.nameAt(i));
            default:
                return NONE;
        }
    }

    public int signs(int p) {
        return read(p) ? reading.orderSize : NONE;
    }

    public int order(int p, int i) {
        return read(p) && i >= 0 && i < reading.orderSize ? reading.order[i] : NONE;
    }

    public int place(int p, int name) {
        int spot = read(p) ? reading.spotOf(name) : NONE;
        if (spot == NONE) {
            return NOT_THERE;
        }
        return reading.isSeen(spot) ? reading.ahead[spot] : NOT_SEEN;
    }

    public int strikers(int p, int name) {
        int spot = read(p) ? reading.spotOf(name) : NONE;
        return spot == NONE ? NONE : reading.struck[spot];
    }

    public int spans(int p, int tint) {
        if (!isTint(tint) || !read(p)) {
            return NONE;
        }
        reading.paint();
        return reading.stretchesOf(tint);
    }

    public int history(int p, int i) {
        Sheet sheet = sheetOf(p);
        if (sheet == null || i < 0) {
            return NONE;
        }
        int earlier = 0;
        for (int k = 0; k < book.count; k++) {
            Slip one = book.byAge[k];
            if (sheet.hasTaken(one)) {
                if (earlier == i) {
                    return one.number;
                }
                earlier++;
            }
        }
        return NONE;
    }

    public int asOf(int p, int stamp, int i) {
        Sheet sheet = sheetOf(p);
        if (sheet == null) {
            return NONE;
        }
        reading.read(sheet, stamp);
        return reading.isPlace(i) ? book.codeOf(reading.nameAt(i)) : NONE;
    }

    public int unlike(int p, int q) {
        Sheet one = sheetOf(p);
        Sheet other = sheetOf(q);
        if (one == null || other == null) {
            return NONE;
        }
        return haveSameTaken(one, other) ? 0 : 1 + placesAlike(one, other);
    }

    // ---- cursors

    public int cursor(int p, int c, int place, int lean) {
        Sheet sheet = sheetOf(p);
        if (sheet == null || !isCursor(c) || lean < 0 || lean > 1) {
            return refuse(BEYOND);
        }
        reading.read(sheet, ANY_STAMP);
        if (place < 0 || place > reading.textSize) {
            return refuse(BEYOND);
        }
        int i = lean == 0 ? place - 1 : place;
        sheet.beside[c] = reading.isPlace(i) ? reading.nameAt(i) : EDGE;
        sheet.leans[c] = lean;
        return done(1);
    }

    public int where(int p, int c) {
        Sheet sheet = sheetOf(p);
        if (sheet == null || !isCursor(c) || sheet.leans[c] == NONE) {
            return NONE;
        }
        reading.read(sheet, ANY_STAMP);
        boolean toAhead = sheet.leans[c] == 0;
        int spot = reading.spotOf(sheet.beside[c]);
        if (spot == NONE) {
            return toAhead ? 0 : reading.textSize;
        }
        return toAhead ? reading.ahead[spot + 1] : reading.ahead[spot];
    }

    public int status() {
        return finding;
    }

    private int refuse(int why) {
        finding = why;
        return NONE;
    }

    private int done(int answer) {
        finding = FINE;
        return answer;
    }

    private int enter(Sheet sheet, Slip made) {
        book.add(made);
        sheet.own(made);
        return done(made.number);
    }

    private Sheet sheetOf(int p) {
        return p >= 0 && p < PENS ? sheets[p] : null;
    }

    /** Reads a PEN's SHEET as it is now; false if there is no such PEN. */
    private boolean read(int p) {
        Sheet sheet = sheetOf(p);
        if (sheet == null) {
            return false;
        }
        reading.read(sheet, ANY_STAMP);
        return true;
    }

    private boolean haveSameTaken(Sheet one, Sheet other) {
        for (int i = 0; i < book.count; i++) {
            if (one.hasTaken(book.slips[i]) != other.hasTaken(book.slips[i])) {
                return false;
            }
        }
        return true;
    }

    private int placesAlike(Sheet one, Sheet other) {
        reading.read(one, ANY_STAMP);
        reading.paint();
        int most = reading.textSize;
        for (int i = 0; i < most; i++) {
            looks[i] = reading.lookAt(i);
        }
        reading.read(other, ANY_STAMP);
        reading.paint();
        most = Math.min(most, reading.textSize);
        int alike = 0;
        while (alike < most && looks[alike] == reading.lookAt(alike)) {
            alike++;
        }
        return alike;
    }

    private static int[] codesAheadOfNone(int a, int b, int c) {
        int[] codes = {a, b, c};
        int n = 0;
        while (n < codes.length && codes[n] != NONE) {
            n++;
        }
        return Arrays.copyOf(codes, n);
    }

    private static boolean arePutCodes(int[] codes) {
        for (int i = 0; i < codes.length; i++) {
            if (codes[i] < 0 || codes[i] > MOST_CODE) {
                return false;
            }
        }
        return codes.length > 0;
    }

    private static boolean isTint(int tint) {
        return tint >= 0 && tint < TINTS;
    }

    private static boolean isCursor(int c) {
        return c >= 0 && c < CURSORS;
    }

    /** The number of a SIGN's PUT; NONE for what is no SIGN (EDGE, NO_BOUND). */
    private static int putOf(int name) {
        return name < 0 ? NONE : name / 4;
    }

    private abstract static class Slip {
        final int number;
        final int pen;
        final int stamp;
        final int prior;

        Slip(int number, Sheet sheet) {
            this.number = number;
            this.pen = sheet.pen;
            this.stamp = sheet.greatestStamp + 1;
            this.prior = sheet.lastMade;
        }

        abstract int kind();

        abstract int size();

        abstract int nameOf(int i);

        abstract int howManyNeeds();

        /** A SLIP that it NEEDS beside its PEN's earlier one, or NONE. */
        abstract int need(int k);

        final boolean isLaterThan(Slip other) {
            return stamp != other.stamp ? stamp > other.stamp : pen > other.pen;
        }
    }

    private static final class Put extends Slip {
        final int left;
        final int[] codes;

        Put(int number, Sheet sheet, int left, int[] codes) {
            super(number, sheet);
            this.left = left;
            this.codes = codes;
        }

        int kind() {
            return PUT;
        }

        int size() {
            return codes.length;
        }

        int nameOf(int i) {
            return 4 * number + i;
        }

        int howManyNeeds() {
            return 1;
        }

        int need(int k) {
            return putOf(left);
        }
    }

    private static final class Strike extends Slip {
        final int[] names;

        Strike(int number, Sheet sheet, int[] names) {
            super(number, sheet);
            this.names = names;
        }

        int kind() {
            return STRIKE;
        }

        int size() {
            return names.length;
        }

        int nameOf(int i) {
            return i >= 0 && i < names.length ? names[i] : NONE;
        }

        int howManyNeeds() {
            return names.length;
        }

        int need(int k) {
            return putOf(nameOf(k));
        }
    }

    private static final class Mark extends Slip {
        final int first;
        final int last;
        final int bound;
        final int tint;
        final boolean on;

        Mark(int number, Sheet sheet, int first, int last, int bound, int tint, boolean on) {
            super(number, sheet);
            this.first = first;
            this.last = last;
            this.bound = bound;
            this.tint = tint;
            this.on = on;
        }

        int kind() {
            return MARK;
        }

        int size() {
            return 2;
        }

        int nameOf(int i) {
            return i == 0 ? first : last;
        }

        int howManyNeeds() {
            return 3;
        }

        int need(int k) {
            return putOf(k < 2 ? nameOf(k) : bound);
        }
    }

    private static final class Undo extends Slip {
        final int undone;

        Undo(int number, Sheet sheet, int undone) {
            super(number, sheet);
            this.undone = undone;
        }

        int kind() {
            return UNDO;
        }

        int size() {
            return 0;
        }

        int nameOf(int i) {
            return NONE;
        }

        int howManyNeeds() {
            return 1;
        }

        int need(int k) {
            return undone;
        }
    }

    /**
     * All SLIPS, and the ORDER that a SHEET would have that took them all. A SHEET that took a PUT
     * took that of its LEFT too, so each SHEET's ORDER is this one less the SIGNS that it lacks.
     */
    private static final class Book {
        final Slip[] slips = new Slip[MOST_SLIPS];
        final Slip[] byAge = new Slip[MOST_SLIPS];
        final int[] order = new int[MOST_SIGNS];
        int count;
        int orderSize;

        boolean isFull() {
            return count >= MOST_SLIPS;
        }

        Slip find(int slip) {
            return slip >= 0 && slip < count ? slips[slip] : null;
        }

        void add(Slip made) {
            if (isFull()) {
                return;
            }
            slips[count] = made;
            insertByAge(made);
            count++;
            if (made instanceof Put put) {
                insertSigns(put);
            }
        }

        int codeOf(int name) {
            if (find(putOf(name)) instanceof Put put) {
                int i = name % 4;
                return i < put.codes.length ? put.codes[i] : NONE;
            }
            return NONE;
        }

        int penOf(int name) {
            Slip put = find(putOf(name));
            return put == null ? NONE : put.pen;
        }

        private void insertByAge(Slip made) {
            int k = count;
            while (k > 0 && byAge[k - 1].isLaterThan(made)) {
                byAge[k] = byAge[k - 1];
                k--;
            }
            byAge[k] = made;
        }

        private void insertSigns(Put put) {
            int n = put.codes.length;
            int at = spotFor(put);
            for (int k = orderSize - 1; k >= at; k--) {
                order[k + n] = order[k];
            }
            for (int i = 0; i < n; i++) {
                order[at + i] = put.nameOf(i);
            }
            orderSize += n;
        }

        /**
         * Whatever stands behind a SIGN of a PUT is LATER than that PUT: so the run of LATER SIGNS
         * behind the LEFT is just its LATER PUTS with all that stands behind their SIGNS.
         */
        private int spotFor(Put put) {
            int at = 0;
            if (put.left != EDGE) {
                while (at < orderSize && order[at] != put.left) {
                    at++;
                }
                at = Math.min(at + 1, orderSize);
            }
            while (at < orderSize && slips[putOf(order[at])].isLaterThan(put)) {
                at++;
            }
            return at;
        }
    }

    private static final class Sheet {
        final int pen;
        final int[] held = new int[MOST_SLIPS];
        final int[] beside = new int[CURSORS];
        final int[] leans = new int[CURSORS];
        int greatestStamp;
        int lastMade = NONE;

        Sheet(int pen) {
            this.pen = pen;
            Arrays.fill(leans, NONE);
        }

        boolean hasTaken(Slip slip) {
            return held[slip.number] == TAKEN;
        }

        void own(Slip made) {
            lastMade = made.number;
            take(made);
        }

        void get(Slip slip) {
            if (held[slip.number] == NOT_GOT) {
                held[slip.number] = WAITS;
            }
        }

        /** Takes what can be taken; one pass is enough, as a SLIP NEEDS only such of lower numbers. */
        int settle(Book book) {
            int taken = 0;
            for (int i = 0; i < book.count; i++) {
                if (held[i] == WAITS && leastMissing(book.slips[i]) == NONE) {
                    take(book.slips[i]);
                    taken++;
                }
            }
            return taken;
        }

        int leastMissing(Slip slip) {
            int least = lesserMissing(NONE, slip.prior);
            int n = slip.howManyNeeds();
            for (int k = 0; k < n; k++) {
                least = lesserMissing(least, slip.need(k));
            }
            return least;
        }

        private int lesserMissing(int least, int needed) {
            if (needed == NONE || held[needed] == TAKEN) {
                return least;
            }
            return least == NONE ? needed : Math.min(least, needed);
        }

        private void take(Slip slip) {
            held[slip.number] = TAKEN;
            greatestStamp = Math.max(greatestStamp, slip.stamp);
        }
    }

    /**
     * What a SHEET shows by its TAKEN SLIPS up to a STAMP. One object serves all calls: each call
     * reads anew what it asks about. A spot is an index in ORDER.
     */
    private static final class Reading {
        final Book book;
        final int[] standing = new int[MOST_SLIPS];
        final int[] order = new int[MOST_SIGNS];
        final int[] spots = new int[NAMES];
        final int[] struck = new int[MOST_SIGNS];
        final int[] ahead = new int[MOST_SIGNS + 1];
        final int[] seen = new int[MOST_SIGNS];
        final int[] tints = new int[MOST_SIGNS];
        int orderSize;
        int textSize;

        Reading(Book book) {
            this.book = book;
            Arrays.fill(spots, NONE);
        }

        void read(Sheet sheet, int lastStamp) {
            findTaken(sheet, lastStamp);
            findUndone();
            findOrder();
            findStruck();
            findSeen();
        }

        boolean isWorking(Slip slip) {
            return standing[slip.number] == WORKS;
        }

        boolean isPlace(int i) {
            return i >= 0 && i < textSize;
        }

        boolean hasStretch(int from, int n) {
            return n > 0 && from >= 0 && from <= textSize - n;
        }

        int nameAt(int i) {
            return isPlace(i) ? order[seen[i]] : NONE;
        }

        int tintsAt(int i) {
            return isPlace(i) ? tints[seen[i]] : 0;
        }

        /** NAME and TINTS in one number. */
        int lookAt(int i) {
            return nameAt(i) * (1 << TINTS) + tintsAt(i);
        }

        int[] namesFrom(int from, int n) {
            int[] names = new int[Math.max(0, n)];
            for (int i = 0; i < names.length; i++) {
                names[i] = nameAt(from + i);
            }
            return names;
        }

        int spotOf(int name) {
            return name >= 0 && name < NAMES ? spots[name] : NONE;
        }

        boolean isSeen(int spot) {
            return ahead[spot + 1] > ahead[spot];
        }

        int nextBehind(int name) {
            int next = spotOf(name) + 1;
            return next < orderSize ? order[next] : EDGE;
        }

        int stretchesOf(int tint) {
            int bit = 1 << tint;
            int stretches = 0;
            boolean inside = false;
            for (int i = 0; i < textSize; i++) {
                boolean has = (tints[seen[i]] & bit) != 0;
                if (has && !inside) {
                    stretches++;
                }
                inside = has;
            }
            return stretches;
        }

        /** Lays the MARKS from the earliest on, so that of each TINT the LATEST stays on top. */
        void paint() {
            for (int spot = 0; spot < orderSize; spot++) {
                tints[spot] = 0;
            }
            for (int k = 0; k < book.count; k++) {
                if (book.byAge[k] instanceof Mark mark && isWorking(mark)) {
                    lay(mark);
                }
            }
        }

        private void lay(Mark mark) {
            int bit = 1 << mark.tint;
            int from = Math.max(0, spotOf(mark.first));
            int end = endOf(mark);
            for (int spot = from; spot < end; spot++) {
                tints[spot] = mark.on ? tints[spot] | bit : tints[spot] & ~bit;
            }
        }

        private int endOf(Mark mark) {
            if (mark.bound == NO_BOUND) {
                return spotOf(mark.last) + 1;
            }
            return mark.bound == EDGE ? orderSize : spotOf(mark.bound);
        }

        private void findTaken(Sheet sheet, int lastStamp) {
            for (int i = 0; i < book.count; i++) {
                Slip slip = book.slips[i];
                boolean counts = sheet.hasTaken(slip) && slip.stamp <= lastStamp;
                standing[i] = counts ? WORKS : NOT_GOT;
            }
        }

        /** From the last on: what undoes a SLIP has a higher number, and so is settled ahead of it. */
        private void findUndone() {
            for (int i = book.count - 1; i >= 0; i--) {
                if (standing[i] == WORKS && book.slips[i] instanceof Undo undo) {
                    standing[undo.undone] = TAKEN;
                }
            }
        }

        private void findOrder() {
            orderSize = 0;
            for (int k = 0; k < book.orderSize; k++) {
                int name = book.order[k];
                if (standing[putOf(name)] == NOT_GOT) {
                    spots[name] = NONE;
                } else {
                    spots[name] = orderSize;
                    order[orderSize] = name;
                    orderSize++;
                }
            }
        }

        private void findStruck() {
            for (int spot = 0; spot < orderSize; spot++) {
                struck[spot] = 0;
            }
            for (int i = 0; i < book.count; i++) {
                if (standing[i] == WORKS && book.slips[i] instanceof Strike strike) {
                    countStruck(strike);
                }
            }
        }

        private void countStruck(Strike strike) {
            for (int i = 0; i < strike.names.length; i++) {
                int spot = spotOf(strike.names[i]);
                if (spot != NONE) {
                    struck[spot]++;
                }
            }
        }

        private void findSeen() {
            textSize = 0;
            for (int spot = 0; spot < orderSize; spot++) {
                ahead[spot] = textSize;
                if (struck[spot] == 0 && standing[putOf(order[spot])] == WORKS) {
                    seen[textSize] = spot;
                    textSize++;
                }
            }
            ahead[orderSize] = textSize;
        }
    }
}
