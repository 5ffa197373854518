import java.util.Random;

/** Promises 34 to 43: HANDS, SURVEYS joined, GAUGES and CAUSES. */
public final class CracksTest {
    public static void main(String[] args) {
        promise34();
        promise35();
        promise36();
        promise37();
        promise37Growth();
        promise37Long();
        promise38();
        promise38Ties();
        promise38AsAllSetsTell();
        promise39();
        promise40();
        promise41();
        promise42();
        promise42None();
        promise42Large();
        promise43();
        Check.end();
    }

    private static void promise34() {
        PartyWalls x = new PartyWalls();
        Check.dueThrows("habit 51", Check.ARGUMENT, () -> x.hand(51));
        Check.dueThrows("habit -51", Check.ARGUMENT, () -> x.hand(-51));
        for (int i = 0; i < 5; i++) {
            Check.due("hand", x.hand(50 - 25 * i), i);
        }
        Check.dueThrows("6th", Check.STATE, () -> x.hand(0));
        Check.dueThrows("6th, none such", Check.ARGUMENT, () -> x.hand(51));
    }

    private static void promise35() {
        PartyWalls x = new PartyWalls();
        Check.dueThrows("no hand", Check.INDEX, () -> x.survey(0));
        x.hand(0);
        Check.dueThrows("hand -1", Check.INDEX, () -> x.survey(-1));
        for (int i = 0; i < 10; i++) {
            Check.due("survey", x.survey(0), i);
        }
        Check.dueThrows("11th", Check.STATE, () -> x.survey(0));
        Check.dueThrows("11th, no hand", Check.INDEX, () -> x.survey(1));
    }

    private static void promise36() {
        PartyWalls x = new PartyWalls();
        x.hand(0);
        x.survey(0);
        Check.dueThrows("no survey", Check.INDEX, () -> x.crack(1, -1, 0));
        Check.dueThrows("survey -1", Check.INDEX, () -> x.crack(-1, 0, 0));
        Check.dueThrows("place -1", Check.ARGUMENT, () -> x.crack(0, -1, 0));
        Check.dueThrows("place", Check.ARGUMENT, () -> x.crack(0, 100_001, 0));
        Check.dueThrows("width -1", Check.ARGUMENT, () -> x.crack(0, 0, -1));
        Check.dueThrows("width", Check.ARGUMENT, () -> x.crack(0, 0, 10_001));
        Check.due("first", x.crack(0, 500, 10_000), 0);
        Check.due("below", x.crack(0, 499, 0), -2);
        Check.due("not below", x.crack(0, 500, 0), 1);
        for (int i = 2; i < 20; i++) {
            Check.due("crack", x.crack(0, 100_000, 0), i);
        }
        Check.due("21st", x.crack(0, 100_000, 0), -1);
        Check.due("21st, below", x.crack(0, 0, 0), -1);
        Check.dueThrows("21st, none such", Check.ARGUMENT, () -> x.crack(0, 0, -1));
    }

    /** Two SURVEYS 0 and 1 by one HAND, of CRACKS of width 0 at places. */
    private static PartyWalls two(int[] before, int[] after) {
        PartyWalls x = new PartyWalls();
        x.hand(0);
        x.survey(0);
        x.survey(0);
        for (int place : before) {
            x.crack(0, place, 0);
        }
        for (int place : after) {
            x.crack(1, place, 0);
        }
        return x;
    }

    private static void dueJoined(PartyWalls x, int... want) {
        for (int what = 0; what < want.length; what++) {
            Check.due("joined " + what, x.joined(0, 1, what), want[what]);
        }
    }

    private static void duePairs(PartyWalls x, int... want) {
        for (int k = 0; k < want.length; k++) {
            Check.due("pair " + k, x.pair(0, 1, k), want[k]);
        }
    }

    private static void promise37() {
        dueJoined(two(new int[0], new int[0]), 0, 0, 0, 0, 0);
        dueJoined(two(new int[] {5}, new int[0]), 0, 0, 0, 1, 0);
        dueJoined(two(new int[0], new int[] {5}), 0, 0, 1, 0, 0);
        dueJoined(two(new int[] {0}, new int[] {50}), 1, 0, 0, 0, 50);
        dueJoined(two(new int[] {0}, new int[] {51}), 0, 0, 1, 1, 0);
        // The most pairs, though fewer would be less apart.
        PartyWalls x = two(new int[] {0, 50}, new int[] {50, 100});
        dueJoined(x, 2, 0, 0, 0, 100);
        Check.rule(x, "near 49;");
        dueJoined(x, 1, 0, 1, 1, 0);
        Check.rule(x, "near 0;");
        dueJoined(x, 1, 0, 1, 1, 0);
        // Those that cross do not go together.
        PartyWalls y = two(new int[] {0, 400}, new int[] {0, 400, 400});
        dueJoined(y, 2, 0, 1, 0, 0);
        Check.dueThrows("what 5", Check.ARGUMENT, () -> y.joined(0, 1, 5));
        Check.dueThrows("what -1", Check.ARGUMENT, () -> y.joined(0, 1, -1));
        Check.dueThrows("no before", Check.INDEX, () -> y.joined(2, 1, 5));
        Check.dueThrows("no after", Check.INDEX, () -> y.joined(0, 2, 0));
        Check.dueThrows("after -1", Check.INDEX, () -> y.joined(0, -1, 0));
        Check.due("with itself", y.joined(1, 1, 0), 3);
        Check.due("of another way", y.joined(1, 0, 3), 1);
    }

    private static void promise37Growth() {
        PartyWalls x = new PartyWalls();
        x.hand(50);
        x.hand(-50);
        x.survey(0);
        x.survey(1);
        x.crack(0, 100, 200);
        x.crack(0, 300, 200);
        x.crack(0, 500, 200);
        // TRUE is 150 before; 110 and 111 less -50 are 160 and 161.
        x.crack(1, 100, 110);
        x.crack(1, 300, 111);
        x.crack(1, 500, 0);
        dueJoined(x, 2, 1, 0, 0, 0);
        Check.rule(x, "season 9;");
        dueJoined(x, 1, 2, 0, 0, 0);
        Check.rule(x, "season 0;");
        Check.due("narrower is the same", x.joined(1, 0, 0), 2);
        Check.due("wider the other way", x.joined(1, 0, 1), 1);
        Check.rule(x, "season 11;");
        dueJoined(x, 3, 0, 0, 0, 0);
    }

    private static void promise37Long() {
        int[] places = new int[20];
        int[] moved = new int[20];
        for (int i = 0; i < 20; i++) {
            places[i] = 100 * i;
            moved[i] = 100 * i + 50;
        }
        PartyWalls x = two(places, moved);
        dueJoined(x, 20, 0, 0, 0, 1_000);
        Check.rule(x, "near 400;");
        dueJoined(x, 20, 0, 0, 0, 1_000);
        Check.rule(x, "near 49;");
        dueJoined(x, 0, 0, 20, 20, 0);
        // A larger join leaves nothing behind for a smaller one.
        x.survey(0);
        x.crack(2, 100, 0);
        Check.rule(x, "");
        dueJoined(x, 20, 0, 0, 0, 1_000);
        Check.due("smaller", x.joined(2, 2, 0), 1);
        Check.due("smaller, apart", x.joined(2, 0, 4), 0);
        Check.due("smaller, its pair", x.pair(2, 0, 0), 1);
        Check.due("smaller, of which there is none", x.pair(2, 0, 1), -1);
    }

    private static void promise38() {
        PartyWalls x = two(new int[] {0, 100, 200}, new int[] {90, 210});
        duePairs(x, -1, 0, 1, -1);
        Check.due("pair -1", x.pair(0, 1, -1), -1);
        Check.due("pair 20", x.pair(0, 1, 20), -1);
        Check.due("pair most", x.pair(0, 1, Integer.MAX_VALUE), -1);
        Check.due("pair least", x.pair(0, 1, Integer.MIN_VALUE), -1);
        Check.rule(x, "near 9;");
        duePairs(x, -1, -1, -1);
        Check.dueThrows("no before", Check.INDEX, () -> x.pair(2, 1, 0));
        Check.dueThrows("no after", Check.INDEX, () -> x.pair(0, 2, 99));
        Check.dueThrows("before -1", Check.INDEX, () -> x.pair(-1, 0, 0));
    }

    private static void promise38Ties() {
        duePairs(two(new int[] {0, 20}, new int[] {10}), 0, -1);
        duePairs(two(new int[] {10}, new int[] {0, 20}), 0);
        duePairs(two(new int[] {5, 5}, new int[] {5}), 0, -1);
        duePairs(two(new int[] {5}, new int[] {5, 5, 5}), 0);
        duePairs(two(new int[] {5, 5}, new int[] {5, 5, 5}), 0, 1);
        duePairs(two(new int[] {0, 10, 20}, new int[] {10, 10}), 0, 1, -1);
        duePairs(two(new int[] {0, 10, 20}, new int[] {5, 15}), 0, 1, -1);
        // In it is ahead, though the one behind would have a lower one.
        duePairs(two(new int[] {0, 2}, new int[] {1}), 0, -1);
    }

    private static void promise38AsAllSetsTell() {
        Random random = new Random(1);
        for (int round = 0; round < 2_000; round++) {
            int[] before = places(random);
            int[] after = places(random);
            int near = random.nextInt(12);
            PartyWalls x = two(before, after);
            Check.rule(x, "near " + near + ";");
            AllSets all = new AllSets(before, after, near);
            for (int i = 0; i < before.length; i++) {
                Check.due("round " + round + ", pair " + i, x.pair(0, 1, i), all.best[i]);
            }
            Check.due("round " + round + ", pairs", x.joined(0, 1, 0), all.bestPairs);
            Check.due("round " + round + ", apart", x.joined(0, 1, 4), all.bestApart);
        }
    }

    private static int[] places(Random random) {
        int[] places = new int[random.nextInt(6)];
        for (int i = 0; i < places.length; i++) {
            places[i] = (i == 0 ? 0 : places[i - 1]) + random.nextInt(7);
        }
        return places;
    }

    /** Goes through all sets of pairs, the ones that are ahead first, and keeps the first of the best. */
    private static final class AllSets {
        private final int[] before;
        private final int[] after;
        private final int near;
        private final int[] chosen;
        int[] best;
        int bestPairs = -1;
        int bestApart;

        AllSets(int[] before, int[] after, int near) {
            this.before = before;
            this.after = after;
            this.near = near;
            chosen = new int[before.length];
            go(0, 0, 0, 0);
        }

        private void go(int i, int next, int pairs, int apart) {
            if (i == before.length) {
                if (pairs > bestPairs || pairs == bestPairs && apart < bestApart) {
                    best = chosen.clone();
                    bestPairs = pairs;
                    bestApart = apart;
                }
                return;
            }
            for (int j = next; j < after.length; j++) {
                int between = Math.abs(before[i] - after[j]);
                if (between <= near) {
                    chosen[i] = j;
                    go(i + 1, j + 1, pairs + 1, apart + between);
                }
            }
            chosen[i] = -1;
            go(i + 1, next, pairs, apart);
        }
    }

    private static void promise39() {
        PartyWalls x = new PartyWalls();
        for (int i = 0; i < 10; i++) {
            Check.due("gauge", x.gauge(), i);
        }
        Check.dueThrows("11th", Check.STATE, x::gauge);
    }

    private static void promise40() {
        PartyWalls x = new PartyWalls();
        x.gauge();
        x.wait(50);
        Check.dueThrows("no gauge", Check.INDEX, () -> x.read(1, -1, 0));
        Check.dueThrows("gauge -1", Check.INDEX, () -> x.read(-1, 0, 0));
        Check.dueThrows("day -1", Check.ARGUMENT, () -> x.read(0, -1, 0));
        Check.dueThrows("value", Check.ARGUMENT, () -> x.read(0, 0, 10_001));
        Check.dueThrows("value -", Check.ARGUMENT, () -> x.read(0, 0, -10_001));
        Check.due("behind today", x.read(0, 51, 0), -2);
        Check.due("first", x.read(0, 3, 10_000), 1);
        Check.due("the same day", x.read(0, 3, 0), -2);
        Check.due("a day ahead", x.read(0, 2, 0), -2);
        Check.due("next", x.read(0, 4, -10_000), 2);
        Check.due("today", x.read(0, 50, 0), 3);
        Check.due("tomorrow", x.read(0, 51, 0), -2);
        x.wait(50);
        for (int i = 4; i <= 40; i++) {
            Check.due("reading", x.read(0, 50 + i, 0), i);
        }
        Check.due("41st", x.read(0, 99, 0), -1);
        Check.due("41st, too early", x.read(0, 0, 0), -1);
        Check.dueThrows("41st, none such", Check.ARGUMENT, () -> x.read(0, 99, 10_001));
    }

    private static void promise41() {
        PartyWalls x = new PartyWalls();
        x.gauge();
        x.gauge();
        x.wait(100);
        Check.due("no readings", x.at(0, 0), PartyWalls.VOIDED);
        x.read(0, 10, 7);
        Check.due("the one", x.at(0, 10), 7);
        Check.due("behind it", x.at(0, 11), PartyWalls.VOIDED);
        Check.due("ahead of it", x.at(0, 9), PartyWalls.VOIDED);
        x.read(0, 13, 8);
        x.read(0, 16, -1);
        x.read(0, 20, -4);
        int[] want = {7, 7, 7, 8, 5, 2, -1, -2, -3, -4, -4};
        for (int i = 0; i < want.length; i++) {
            Check.due("at " + (10 + i), x.at(0, 10 + i), want[i]);
        }
        Check.due("behind the last", x.at(0, 21), PartyWalls.VOIDED);
        Check.due("day most", x.at(0, Integer.MAX_VALUE), PartyWalls.VOIDED);
        Check.due("day least", x.at(0, Integer.MIN_VALUE), PartyWalls.VOIDED);
        Check.dueThrows("no gauge", Check.INDEX, () -> x.at(3, 0));
        Check.dueThrows("gauge -1", Check.INDEX, () -> x.at(-1, 0));
        x.gauge();
        for (int i = 0; i < 40; i++) {
            x.read(2, 2 * i, 3 * i);
        }
        Check.due("the 40th", x.at(2, 78), 117);
        Check.due("behind the 40th", x.at(2, 79), PartyWalls.VOIDED);
        Check.due("ahead of the 40th", x.at(2, 77), 115);
        // More than an int holds on the way.
        for (int i = 0; i < 99; i++) {
            x.wait(10_000);
        }
        x.read(1, 0, 10_000);
        x.read(1, 990_000, -10_000);
        Check.due("half the way", x.at(1, 495_000), 0);
        Check.due("near the end, down", x.at(1, 989_999), -10_000);
        Check.due("near the first, down", x.at(1, 1), 9_999);
    }

    /** WORK 0 is BEGUN on DAY 10, and today is DAY 30. */
    private static PartyWalls begun() {
        PartyWalls x = Check.withWall(2, "raise 0 if depth>0;");
        x.gauge();
        x.gauge();
        x.work(0, 0, 0, 0, 0, 0);
        x.wait(10);
        x.begin(0);
        x.wait(20);
        return x;
    }

    private static void dueCauses(PartyWalls x, int to, long... want) {
        for (int what = 0; what < 4; what++) {
            Check.due("to " + to + ", cause " + what, x.cause(0, 1, 0, to, what), want[what]);
        }
    }

    private static void promise42() {
        PartyWalls x = begun();
        x.read(0, 4, 100);
        x.read(0, 10, 105);
        x.read(0, 20, 150);
        x.read(0, 30, 140);
        x.read(1, 0, 0);
        x.read(1, 30, 30);
        dueCauses(x, 20, 45, 10, 8, 27);
        dueCauses(x, 30, 35, 20, 16, -1);
        dueCauses(x, 11, 4, 1, 0, 3);
        x.done(0);
        dueCauses(x, 20, 45, 10, 8, 27);
        Check.due("by itself", x.cause(0, 0, 0, 20, 3), -8);
        Check.dueThrows("no gauge", Check.INDEX, () -> x.cause(2, 1, 0, 20, 4));
        Check.dueThrows("no far one", Check.INDEX, () -> x.cause(0, 2, 0, 20, 0));
        Check.dueThrows("no work", Check.INDEX, () -> x.cause(0, 1, 1, 20, 0));
        Check.dueThrows("work -1", Check.INDEX, () -> x.cause(0, 1, -1, 20, 0));
        Check.dueThrows("what 4", Check.ARGUMENT, () -> x.cause(0, 1, 0, 20, 4));
        Check.dueThrows("what -1, none", Check.ARGUMENT, () -> x.cause(0, 1, 0, 99, -1));
        PartyWalls y = begun();
        y.read(0, 10, 5);
        y.read(0, 30, 15);
        y.read(1, 10, 5);
        y.read(1, 30, -15);
        dueCauses(y, 30, 10, -20, 0, 30);
        PartyWalls z = begun();
        z.read(0, 3, 5);
        z.read(0, 10, 4);
        z.read(0, 30, 4);
        z.read(1, 3, 0);
        z.read(1, 30, 0);
        // -1 in 7 days: down, not towards 0.
        dueCauses(z, 11, 0, 0, -1, 1);
        dueCauses(z, 17, 0, 0, -1, 1);
        dueCauses(z, 18, 0, 0, -2, 2);
    }

    private static void dueNone(String why, PartyWalls x, int work, int to) {
        for (int what = 0; what < 4; what++) {
            Check.due(why + ", cause " + what, x.cause(0, 1, work, to, what), PartyWalls.VOIDED);
        }
        Check.due(why + ", blamed", x.blamed(0, 1, work, to), false);
    }

    private static void promise42None() {
        PartyWalls x = begun();
        dueNone("no readings", x, 0, 20);
        x.read(0, 0, 0);
        x.read(0, 28, 10_000);
        dueNone("no far one", x, 0, 20);
        x.read(1, 11, 0);
        x.read(1, 29, 0);
        dueNone("far one behind the begin", x, 0, 20);
        PartyWalls y = begun();
        y.read(0, 9, 0);
        y.read(0, 28, 10_000);
        y.read(1, 10, 0);
        y.read(1, 27, 0);
        Check.due("all are there", y.cause(0, 1, 0, 27, 0), 9_473 - 526);
        dueNone("far one ends", y, 0, 28);
        dueNone("to the begin", y, 0, 10);
        dueNone("ahead of the begin", y, 0, 9);
        dueNone("to least", y, 0, Integer.MIN_VALUE);
        dueNone("to most", y, 0, Integer.MAX_VALUE);
        y.work(0, 0, 0, 1, 0, 0);
        dueNone("planned", y, 1, 27);
        y.begin(1);
        dueNone("void", y, 1, 31);
        PartyWalls z = begun();
        z.read(0, 10, 0);
        z.read(0, 20, 0);
        z.read(1, 0, 0);
        z.read(1, 30, 0);
        dueNone("the gauge ends", z, 0, 21);
        Check.due("it does not yet", z.cause(0, 1, 0, 20, 3), 0);
    }

    private static void promise42Large() {
        PartyWalls x = Check.withWall(2, "raise 0 if depth>0;");
        x.gauge();
        x.gauge();
        x.work(0, 0, 0, 0, 0, 0);
        x.wait(1);
        x.begin(0);
        for (int i = 0; i < 99; i++) {
            x.wait(10_000);
        }
        x.read(0, 0, -10_000);
        x.read(0, 1, 10_000);
        x.read(0, 990_001, 0);
        x.read(1, 1, 0);
        x.read(1, 990_001, 0);
        dueCauses(x, 990_001, -10_000, 0, 20_000L * 990_000, -10_000 - 20_000L * 990_000);
    }

    private static void promise43() {
        PartyWalls x = begun();
        x.read(0, 10, 0);
        x.read(0, 20, 10);
        x.read(0, 30, 30);
        x.read(1, 10, 0);
        x.read(1, 30, 0);
        Check.due("season is not above season", x.blamed(0, 1, 0, 20), false);
        Check.due("above it", x.blamed(0, 1, 0, 21), true);
        Check.rule(x, "season 12;");
        Check.due("by the rule now", x.blamed(0, 1, 0, 21), false);
        Check.rule(x, "season 0;");
        Check.due("season 0", x.blamed(0, 1, 0, 11), true);
        Check.due("below 0", x.blamed(1, 0, 0, 30), false);
        Check.dueThrows("no gauge", Check.INDEX, () -> x.blamed(2, 1, 0, 20) ? 1 : 0);
        Check.dueThrows("no far one", Check.INDEX, () -> x.blamed(0, 2, 0, 20) ? 1 : 0);
        Check.dueThrows("no work", Check.INDEX, () -> x.blamed(0, 1, 1, 20) ? 1 : 0);
    }
}
