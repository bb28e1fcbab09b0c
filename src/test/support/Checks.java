/** What the tests share: they count what they look at, and say what was not as due. */
abstract class Checks {
    static final int NONE = ManyPens.NONE;
    static final int EDGE = ManyPens.EDGE;
    static final int FINE = 0;
    static final int BEYOND = 1;
    static final int FULL = 2;
    static final int OTHER = 3;
    static final int STILL = 4;
    static final int NEGATIVE = 5;
    static final int KIND = 6;
    static final int MIN = Integer.MIN_VALUE;
    static final int MAX = Integer.MAX_VALUE;
    static final int MOST_SLIPS = 256;

    /** "An object is used for at most 512 calls after it has been made": no test gives one more of them. */
    static final int MOST_CALLS = 512;

    /** For sentences that stand under no promise: under 'Terms', 'What it is', 'The public face', or elsewhere. */
    static final int TERMS = 0;
    static final int WHAT_IT_IS = -1;
    static final int FACE = -2;
    static final int LANGUAGE = -3;
    static final int README = -4;
    private static final String[] OTHERS = {"terms", "what it is", "the public face", "LANGUAGE.md", "README.md"};

    static final int[] NO_PENS = outside(0, 5);

    private static int checks = 0;
    private static int wrong = 0;

    /** The first values that are not allowed, on both sides, and the farthest ones. */
    static int[] outside(int least, int greatest) {
        return new int[] {MIN, least - 1, greatest + 1, MAX};
    }

    /** Numbers that are no SLIPS while there are so many; those of a full object are among them. */
    static int[] noSlips(int count) {
        return new int[] {MIN, -1, count, Math.max(count, MOST_SLIPS - 1), MOST_SLIPS, MAX};
    }

    static void due(int promise, String what, int got, int want) {
        checks++;
        if (got != want) {
            wrong++;
            String where = promise <= TERMS ? OTHERS[-promise] : "promise " + promise;
            System.out.println(where + ": " + what + " answered " + got + ", due is " + want);
        }
    }

    static void due(int promise, String what, boolean got, boolean want) {
        due(promise, what, got ? 1 : 0, want ? 1 : 0);
    }

    static void refused(int promise, String what, ManyPens x, int got, int finding) {
        due(promise, what, got, NONE);
        due(promise, what + ", its finding", x.status(), finding);
    }

    static void done(int promise, String what, ManyPens x, int got, int want) {
        due(promise, what, got, want);
        due(promise, what + ", its finding", x.status(), FINE);
    }

    /** The NAMES in ORDER at a SHEET. */
    static void dueOrder(int promise, String what, ManyPens x, int p, int... names) {
        due(promise, what + ": signs", x.signs(p), names.length);
        for (int i = 0; i < names.length; i++) {
            due(promise, what + ": order " + i, x.order(p, i), names[i]);
        }
        due(promise, what + ": order behind the last", x.order(p, names.length), NONE);
    }

    /** The TEXT of a SHEET, as characters. */
    static void dueText(int promise, String what, ManyPens x, int p, String text) {
        due(promise, what + ": length", x.length(p), text.length());
        for (int i = 0; i < text.length(); i++) {
            due(promise, what + ": code at " + i, x.text(p, i, 0), text.charAt(i));
        }
        due(promise, what + ": code behind the last", x.text(p, text.length(), 0), NONE);
    }

    static void dueTints(int promise, String what, ManyPens x, int p, int... tints) {
        due(promise, what + ": length", x.length(p), tints.length);
        for (int i = 0; i < tints.length; i++) {
            due(promise, what + ": tints at " + i, x.text(p, i, 2), tints[i]);
        }
    }

    static int write(ManyPens x, int p, int place, String codes) {
        return x.type(p, place, codes.charAt(0),
                codes.length() > 1 ? codes.charAt(1) : -1, codes.length() > 2 ? codes.charAt(2) : -1);
    }

    static ManyPens with(String first) {
        ManyPens x = new ManyPens();
        write(x, 0, 0, first);
        return x;
    }

    /** PEN 0 puts single SIGNS at the beginning, from that many SLIPS up to that many. */
    static void fill(ManyPens x, int have, int want) {
        for (int slip = have; slip < want; slip++) {
            due(2, "put to fill", x.type(0, 0, 'f', -1, -1), slip);
        }
    }

    static ManyPens filled(int slips) {
        ManyPens x = new ManyPens();
        fill(x, 0, slips);
        return x;
    }

    static void end() {
        System.out.println(checks + " answers looked at, " + wrong + " not as due");
        if (wrong != 0) {
            System.exit(1);
        }
    }
}
