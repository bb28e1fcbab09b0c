import java.util.ArrayList;
import java.util.Collections;
import java.util.HashMap;
import java.util.List;
import java.util.Map;
import java.util.Random;

/** The document's opening, 'What it is', piece by piece. */
public final class WhatItIsTest extends Checks {
    private static final int RUNS = 12;
    private static final int ACTS = 60;
    private static final int MOST_MADE = 30;

    // ---- "sheets that took the same slips have the same text, the same marks, the same places, whatever came first"

    /** One random ACT of a PEN, or what others made comes to it. */
    private static void anyAct(ManyPens x, Random random, int slips) {
        int p = random.nextInt(6);
        int choice = slips < MOST_MADE ? random.nextInt(10) : 9;
        int length = Math.max(1, slips / 2);
        int from = random.nextInt(length);
        switch (choice) {
            case 0, 1, 2: x.type(p, from, 'a' + random.nextInt(26), random.nextBoolean() ? -1 : 'A', 'B'); break;
            case 3: x.type(p, 0, '0' + random.nextInt(10), -1, -1); break;
            case 4: x.strike(p, from, 1 + random.nextInt(3)); break;
            case 5, 6: x.mark(p, from, 1 + random.nextInt(3), random.nextInt(4), random.nextInt(4)); break;
            case 7: x.undo(p, random.nextInt(Math.max(1, slips))); break;
            case 8: x.carry(random.nextInt(Math.max(1, slips)), p); break;
            default: x.all(random.nextInt(6), p);
        }
    }

    /** All PENS act; then each SHEET gets all SLIPS, each in an order of its own, some of them twice. Answers the calls. */
    private static int actAndCarryAll(ManyPens x, int seed) {
        Random random = new Random(seed);
        for (int act = 0; act < ACTS; act++) {
            anyAct(x, random, x.slips());
        }
        int made = x.slips();
        int calls = 2 * ACTS + 1;
        for (int p = 0; p < 6; p++) {
            List<Integer> order = new ArrayList<>();
            for (int slip = 0; slip < made; slip++) {
                order.add(slip);
                if (slip % 5 == p % 5) {
                    order.add(slip);
                }
            }
            Collections.shuffle(order, random);
            for (int slip : order) {
                x.carry(slip, p);
            }
            calls += order.size();
        }
        return calls;
    }

    private static Map<String, Integer> sightOf(int seed, Sight sight, int calls) {
        int[] answers = sight.behind(x -> actAndCarryAll(x, seed), calls);
        Map<String, Integer> byName = new HashMap<>();
        for (int k = 0; k < answers.length; k++) {
            byName.put(sight.name(k), answers[k]);
        }
        return byName;
    }

    private static int[] upTo(int n) {
        int[] numbers = new int[n];
        for (int i = 0; i < n; i++) {
            numbers[i] = i;
        }
        return numbers;
    }

    private static void sheetsBecomeTheSame() {
        Sight sight = new Sight(upTo(MOST_MADE), upTo(40));
        for (int seed = 0; seed < RUNS; seed++) {
            ManyPens x = new ManyPens();
            int calls = actAndCarryAll(x, seed);
            due(WHAT_IT_IS, "a run leaves calls to ask", calls < MOST_CALLS - 100, true);
            due(WHAT_IT_IS, "a run makes slips", x.slips() > MOST_MADE / 2, true);
            due(WHAT_IT_IS, "all are taken", x.history(0, x.slips() - 1) != NONE, true);
            Map<String, Integer> answers = sightOf(seed, sight, calls);
            for (String name : answers.keySet()) {
                for (int p = 1; p < 6; p++) {
                    String there = name.replaceFirst("^(\\w+) 0", "$1 " + p);
                    if (!name.matches("(slip|part|left|bound|undone|later|slips)\\b.*") && !there.equals(name)) {
                        due(WHAT_IT_IS, "run " + seed + ": " + there + " as " + name, answers.get(there), answers.get(name));
                    }
                }
            }
        }
    }

    // ---- "its acts become slips that are carried in any order, twice and late"

    private static void carriedTwiceAndLate() {
        ManyPens x = with("abc");
        write(x, 0, 3, "d");
        x.strike(0, 0, 2);
        x.mark(0, 0, 1, 1, 3);
        x.all(0, 1);
        write(x, 1, 2, "X");
        x.all(1, 2);
        dueText(WHAT_IT_IS, "in time", x, 2, "cdX");
        int[] order = {4, 2, 3, 1, 4, 0, 2, 0};
        int[] taken = {0, 0, 0, 0, 0, 5, 0, 0};
        for (int k = 0; k < order.length; k++) {
            done(WHAT_IT_IS, "carried as number " + k, x, x.carry(order[k], 5), taken[k]);
        }
        dueText(WHAT_IT_IS, "twice and late", x, 5, "cdX");
        dueTints(WHAT_IT_IS, "twice and late", x, 5, 2, 0, 0);
        for (int p = 0; p < 6; p++) {
            for (int slip = 0; slip < 5; slip++) {
                x.carry(slip, p);
                x.carry(slip, p);
            }
            due(WHAT_IT_IS, "each four times and more", x.unlike(p, 5), 0);
        }
    }

    /** "six pens that never ask one another: each writes, strikes and marks on a sheet of its own" */
    private static void sheetsOfTheirOwn() {
        ManyPens x = new ManyPens();
        for (int p = 0; p < 6; p++) {
            x.type(p, 0, 'a' + p, 'A' + p, -1);
            x.mark(p, 0, 2, p % 4, 1);
            x.strike(p, p % 2, 1);
        }
        for (int p = 0; p < 6; p++) {
            due(WHAT_IT_IS, "length of " + p, x.length(p), 1);
            due(WHAT_IT_IS, "code of " + p, x.text(p, 0, 0), (p % 2 == 0 ? 'A' : 'a') + p);
            due(WHAT_IT_IS, "tints of " + p, x.text(p, 0, 2), 1 << p % 4);
            due(WHAT_IT_IS, "signs of " + p, x.signs(p), 2);
            for (int slip = 0; slip < 18; slip++) {
                due(WHAT_IT_IS, "slip " + slip + " at " + p, x.state(p, slip), slip / 3 == p ? 3 : 0);
            }
        }
    }

    // ---- "a pen's own act is undone among the others' acts"

    /** PEN 1's PUT of three, with PEN 0's and PEN 2's PUTS, STRIKE and MARK in it, behind it and over it. */
    private static ManyPens threePensInOnePut() {
        ManyPens x = new ManyPens();
        write(x, 0, 0, "ab");
        x.all(0, 1);
        write(x, 1, 1, "xyz");
        x.all(1, 0);
        x.all(1, 2);
        write(x, 0, 2, "P");
        write(x, 2, 4, "Q");
        x.strike(2, 2, 1);
        x.mark(0, 0, 3, 0, 1);
        for (int p = 0; p < 3; p++) {
            for (int q = 0; q < 3; q++) {
                x.all(p, q);
            }
        }
        return x;
    }

    private static void undoneAmongOthersActs() {
        ManyPens x = threePensInOnePut();
        dueText(WHAT_IT_IS, "ahead of the undo", x, 0, "axPzQb");
        dueTints(WHAT_IT_IS, "ahead of the undo", x, 0, 1, 1, 1, 0, 0, 0);
        x.undo(1, 1);
        x.all(1, 0);
        x.all(1, 2);
        for (int p = 0; p < 3; p++) {
            dueText(WHAT_IT_IS, "the others' signs stay where they were", x, p, "aPQb");
            dueTints(WHAT_IT_IS, "and so does the mark", x, p, 1, 1, 0, 0);
            due(WHAT_IT_IS, "the strike works on", x.state(p, 4), 3);
        }
        x.undo(1, 6);
        x.all(1, 0);
        dueText(WHAT_IT_IS, "the undo is undone: the struck one stays struck", x, 0, "axPzQb");
        dueTints(WHAT_IT_IS, "the undo is undone", x, 0, 1, 1, 1, 0, 0, 0);
        x.undo(2, 4);
        x.undo(0, 5);
        x.all(2, 0);
        dueText(WHAT_IT_IS, "the strike is undone", x, 0, "axPyzQb");
        dueTints(WHAT_IT_IS, "the mark is undone", x, 0, 0, 0, 0, 0, 0, 0, 0);
    }

    // ---- "and texts are told as they were of old"

    /** At a SHEET that gets nothing late, the TEXT of each STAMP is the TEXT that was there then. */
    private static void toldAsTheyWereOfOld() {
        ManyPens x = new ManyPens();
        List<String> texts = new ArrayList<>(List.of(""));
        Random random = new Random(5);
        while (texts.size() <= 12) {
            int made = texts.size() - 1;
            switch (random.nextInt(4)) {
                case 0: x.strike(0, random.nextInt(6), 1); break;
                case 1: x.undo(0, random.nextInt(made + 1)); break;
                default: x.type(0, random.nextInt(made + 1), 'a' + made, 'A' + made, -1);
            }
            if (x.status() == FINE) {
                StringBuilder text = new StringBuilder();
                for (int i = 0; i < x.length(0); i++) {
                    text.append((char) x.text(0, i, 0));
                }
                texts.add(text.toString());
            }
        }
        x.all(0, 4);
        for (int stamp = 0; stamp < texts.size(); stamp++) {
            String text = texts.get(stamp);
            for (int i = 0; i < text.length(); i++) {
                due(WHAT_IT_IS, "stamp " + stamp + ", place " + i, x.asOf(4, stamp, i), text.charAt(i));
            }
            due(WHAT_IT_IS, "stamp " + stamp + ", behind the last", x.asOf(4, stamp, text.length()), NONE);
        }
    }

    // ---- "An object is used for at most 512 calls after it has been made"

    private record Last(String what, int due, Sight.Ask call) {
    }

    private static final Last[] LASTS = {
        new Last("type", 4, x -> x.type(1, 3, 'd', -1, -1)),
        new Last("strike", 4, x -> x.strike(1, 0, 3)),
        new Last("mark", 4, x -> x.mark(1, 0, 3, 0, 1)),
        new Last("undo", 4, x -> x.undo(0, 2)),
        new Last("carry", 1, x -> x.carry(0, 2)),
        new Last("all", 4, x -> x.all(1, 2)),
        new Last("state", 1, x -> x.state(2, 3)),
        new Last("lacks", 1, x -> x.lacks(2, 3)),
        new Last("slips", 4, x -> x.slips()),
        new Last("slip", 3, x -> x.slip(2, 1)),
        new Last("part", 1, x -> x.part(1, 0)),
        new Last("left", EDGE, x -> x.left(0)),
        new Last("bound", 1, x -> x.bound(2)),
        new Last("undone", 1, x -> x.undone(3)),
        new Last("later", 1, x -> x.later(3, 0) ? 1 : 0),
        new Last("length", 3, x -> x.length(1)),
        new Last("text", 4, x -> x.text(1, 0, 2)),
        new Last("signs", 3, x -> x.signs(1)),
        new Last("order", 2, x -> x.order(1, 2)),
        new Last("place", 1, x -> x.place(1, 1)),
        new Last("strikers", 0, x -> x.strikers(1, 1)),
        new Last("spans", 1, x -> x.spans(1, 2)),
        new Last("history", 3, x -> x.history(1, 3)),
        new Last("asOf", 'c', x -> x.asOf(1, 3, 1)),
        new Last("unlike", 1, x -> x.unlike(0, 2)),
        new Last("cursor", 1, x -> x.cursor(1, 0, 3, 1)),
        new Last("where", 3, x -> x.where(0, 0)),
        new Last("status", KIND, x -> x.status()),
    };

    /** An object that has had 511 calls, the last ACT of which was refused as KIND. */
    private static ManyPens readyForTheLastCall() {
        ManyPens x = with("abc");
        x.strike(0, 1, 1);
        x.mark(0, 0, 1, 2, 3);
        x.undo(0, 1);
        x.cursor(0, 0, 3, 0);
        x.all(0, 1);
        x.carry(3, 2);
        for (int calls = 7; calls < MOST_CALLS - 1; calls += 4) {
            x.type(0, 4, 'q', -1, -1);
            x.carry(calls % 4, 0);
            x.text(1, 0, 2);
            x.left(2);
        }
        return x;
    }

    private static void theLastCall() {
        due(WHAT_IT_IS, "each call of the face", LASTS.length, 28);
        for (Last last : LASTS) {
            due(WHAT_IT_IS, "the 512th call: " + last.what, last.call.on(readyForTheLastCall()), last.due);
        }
    }

    /** 256 SLIPS are made, and all of them are carried, one by one: 512 calls, each with its answer. */
    private static void mostSlipsOneByOne() {
        ManyPens x = filled(MOST_SLIPS);
        for (int slip = 0; slip < MOST_SLIPS; slip++) {
            due(WHAT_IT_IS, "slip " + slip + " is carried", x.carry(slip, 1), 1);
        }
        ManyPens y = filled(MOST_SLIPS);
        for (int slip = MOST_SLIPS - 1; slip > 0; slip--) {
            due(WHAT_IT_IS, "slip " + slip + " waits", y.carry(slip, 1), 0);
        }
        due(WHAT_IT_IS, "the 512th call takes all", y.carry(0, 1), MOST_SLIPS);
    }

    public static void main(String[] args) {
        sheetsBecomeTheSame();
        carriedTwiceAndLate();
        sheetsOfTheirOwn();
        undoneAmongOthersActs();
        toldAsTheyWereOfOld();
        theLastCall();
        mostSlipsOneByOne();
        end();
    }
}
