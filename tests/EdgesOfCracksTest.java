/** Each sentence on HANDS, SURVEYS, GAUGES and CAUSES (promises 34 to 43) that names an edge. */
public final class EdgesOfCracksTest {
    private static final int NO_VALUE = PartyWalls.VOIDED;

    public static void main(String[] args) {
        hand();
        survey();
        crack();
        near();
        mostLeastFirst();
        grown();
        joined();
        pair();
        gauge();
        read();
        at();
        causeRefused();
        causeNone();
        causes();
        age();
        blamed();
        Check.end();
    }

    private static PartyWalls withHand(int habit) {
        PartyWalls x = new PartyWalls();
        x.hand(habit);
        return x;
    }

    /** SURVEYS 0 and 1 by a HAND of HABIT 0, of CRACKS of width 0 at these PLACES. */
    private static PartyWalls two(int[] before, int[] after) {
        PartyWalls x = withHand(0);
        x.survey(0);
        x.survey(0);
        for (int place : before) {
            x.crack(0, place, 0);
        }
        for (int place : after) {
            x.crack(1, place, 0);
        }
        return x;
    }

    private static int[] places(int... places) {
        return places;
    }

    private static void dueJoined(PartyWalls x, int... want) {
        for (int what = 0; what < want.length; what++) {
            Check.due("joined " + what, x.joined(0, 1, what), want[what]);
        }
    }

    private static void duePairs(PartyWalls x, int... want) {
        for (int k = 0; k < want.length; k++) {
            Check.due("pair " + k, x.pair(0, 1, k), want[k]);
        }
    }

    private static void hand() {
        Check.sentence("Promise 34: IllegalArgumentException: the HABIT;", () -> {
            Check.dueRange("habit", -50, 50, EdgesOfCracksTest::handOf);
            PartyWalls x = new PartyWalls();
            Check.dueThrows("refused", Check.ARGUMENT, () -> x.hand(51));
            Check.due("hands", x.count(6), 0);
        });
        Check.sentence("Terms 4: HANDS, numbered from 0 on, 5 at most", () -> {
            PartyWalls x = new PartyWalls();
            for (int i = 0; i < 5; i++) {
                Check.due("hand", x.hand(25 * i - 50), i);
            }
        });
        Check.sentence("Promise 34: IllegalStateException: there are 5.", () -> {
            PartyWalls x = new PartyWalls();
            for (int i = 0; i < 5; i++) {
                x.hand(0);
            }
            Check.dueThrows("6th", Check.STATE, () -> x.hand(0));
            Check.dueThrows("6th, no habit", Check.ARGUMENT, () -> x.hand(-51));
            Check.due("hands", x.count(6), 5);
            Check.due("the 5th", x.survey(4), 0);
        });
    }

    private static int handOf(int habit) {
        return new PartyWalls().hand(habit);
    }

    private static void survey() {
        Check.sentence("Promise 35: IndexOutOfBoundsException: no such HAND;", () -> {
            Check.dueThrows("no hands", Check.INDEX, () -> new PartyWalls().survey(0));
            Check.dueNumbers("hand", 1, hand -> withHand(0).survey(hand));
        });
        Check.sentence("Terms 4: SURVEYS, numbered from 0 on, 10 at most", () -> {
            PartyWalls x = withHand(0);
            x.hand(3);
            for (int i = 0; i < 10; i++) {
                Check.due("survey", x.survey(i % 2), i);
            }
        });
        Check.sentence("Promise 35: IllegalStateException: there are 10.", () -> {
            PartyWalls x = withHand(0);
            for (int i = 0; i < 10; i++) {
                x.survey(0);
            }
            Check.dueThrows("11th", Check.STATE, () -> x.survey(0));
            Check.dueThrows("11th, no hand", Check.INDEX, () -> x.survey(1));
            Check.due("surveys", x.count(7), 10);
            Check.due("the 10th", x.crack(9, 0, 0), 0);
        });
    }

    private static void crack() {
        Check.sentence("Promise 36: -1: there are 20;", () -> {
            PartyWalls x = two(places(), places());
            for (int i = 0; i < 20; i++) {
                Check.due("crack", x.crack(0, i, 0), i);
            }
            Check.due("21st", x.crack(0, 19, 0), -1);
            Check.due("21st at the end", x.crack(0, 100_000, 0), -1);
            Check.due("of the other", x.crack(1, 0, 0), 0);
            Check.due("cracks", x.joined(0, 0, 0), 20);
        });
        Check.sentence("Promise 36: -2: its PLACE is below that of the one ahead", () -> {
            PartyWalls x = two(places(), places());
            Check.due("the first, at 0", x.crack(0, 0, 0), 0);
            Check.due("behind it", x.crack(0, 7, 0), 1);
            Check.due("at the same place", x.crack(0, 7, 0), 2);
            Check.due("below", x.crack(0, 6, 0), -2);
            Check.due("far below", x.crack(0, 0, 0), -2);
            Check.due("nothing comes of it", x.crack(0, 7, 0), 3);
            Check.due("of the other", x.crack(1, 6, 0), 0);
            Check.due("a second one, below", x.crack(1, 5, 0), -2);
        });
        Check.sentence("Promise 36: (the first of these)", () -> {
            PartyWalls x = two(places(), places());
            for (int i = 0; i < 20; i++) {
                x.crack(0, 50, 0);
            }
            Check.due("-1 ahead of -2", x.crack(0, 49, 0), -1);
        });
        Check.sentence("Promise 36: IndexOutOfBoundsException: no such SURVEY (so below);", () -> {
            Check.dueThrows("no surveys", Check.INDEX, () -> withHand(0).crack(0, 0, 0));
            Check.dueNumbers("crack of", 2, survey -> two(places(), places()).crack(survey, 0, 0));
            Check.dueThrows("and no place", Check.INDEX, () -> two(places(), places()).crack(2, -1, -1));
            Check.dueNumbers("joined, before", 2, before -> two(places(), places()).joined(before, 1, 0));
            Check.dueNumbers("joined, after", 2, after -> two(places(), places()).joined(0, after, 0));
            Check.dueThrows("and no what", Check.INDEX, () -> two(places(), places()).joined(0, 2, 5));
            Check.dueNumbers("pair, before", 2, before -> two(places(), places()).pair(before, 1, 0));
            Check.dueNumbers("pair, after", 2, after -> two(places(), places()).pair(0, after, 0));
        });
        Check.sentence("Terms 4: each at a PLACE (0 to 100,000)", () -> {
            Check.dueRange("place", 0, 100_000, place -> two(places(), places()).crack(0, place, 0));
            Check.dueThrows("a 21st", Check.ARGUMENT, () -> two(new int[20], places()).crack(0, 100_001, 0));
            Check.dueThrows("a 21st below 0", Check.ARGUMENT, () -> two(new int[20], places()).crack(0, -1, 0));
        });
        Check.sentence("Terms 4: of a WIDTH (0 to 10,000)", () -> {
            Check.dueRange("width", 0, 10_000, width -> two(places(), places()).crack(0, 0, width));
            PartyWalls x = two(places(7), places());
            Check.dueThrows("refused, and below", Check.ARGUMENT, () -> x.crack(0, 6, 10_001));
            Check.due("nothing comes of it", x.crack(0, 7, 10_000), 1);
        });
    }

    private static void near() {
        Check.sentence("Terms 4: whose PLACES are near (by the RULE now, so season) apart at most", () -> {
            for (int near : new int[] {0, 1, 50, 399, 400}) {
                for (int apart = Math.max(near - 1, 0); apart <= near + 1; apart++) {
                    PartyWalls x = two(places(1_000), places(1_000 + apart));
                    Check.rule(x, "near " + near + ";");
                    Check.due("near " + near + ", " + apart + " behind", x.joined(0, 1, 0), apart <= near ? 1 : 0);
                    Check.due("near " + near + ", " + apart + " ahead", x.joined(1, 0, 0), apart <= near ? 1 : 0);
                }
            }
            PartyWalls x = two(places(0), places(40));
            Check.rule(x, "near 39;");
            dueJoined(x, 0, 0, 1, 1, 0);
            Check.rule(x, "near 40;");
            dueJoined(x, 1, 0, 0, 0, 40);
            duePairs(x, 0);
        });
        Check.sentence("Terms 4: that do not cross (of two pairs one is ahead in both)", () -> {
            dueJoined(two(places(0, 40), places(40, 40)), 2, 0, 0, 0, 40);
            // Alone each would rather have the other one's.
            PartyWalls x = two(places(0, 400), places(0, 40));
            Check.rule(x, "near 400;");
            dueJoined(x, 2, 0, 0, 0, 360);
            duePairs(x, 0, 1);
            PartyWalls y = two(places(10, 20), places(15));
            dueJoined(y, 1, 0, 0, 1, 5);
        });
        Check.sentence("Terms 4: no CRACK in two", () -> {
            dueJoined(two(places(5, 5, 5), places(5)), 1, 0, 0, 2, 0);
            dueJoined(two(places(5), places(5, 5, 5)), 1, 0, 2, 0, 0);
            dueJoined(two(new int[20], new int[20]), 20, 0, 0, 0, 0);
            dueJoined(two(new int[20], new int[19]), 19, 0, 0, 1, 0);
        });
    }

    private static void mostLeastFirst() {
        Check.sentence("Terms 4: of all such sets of pairs those with the most", () -> {
            PartyWalls x = two(places(0, 50), places(50, 100));
            dueJoined(x, 2, 0, 0, 0, 100);
            duePairs(x, 0, 1);
            PartyWalls y = two(places(0, 50, 100), places(50, 100, 150));
            dueJoined(y, 3, 0, 0, 0, 150);
        });
        Check.sentence("Terms 4: of these those where PLACES are least apart together", () -> {
            PartyWalls x = two(places(0, 20), places(19));
            dueJoined(x, 1, 0, 0, 1, 1);
            duePairs(x, -1, 0);
            PartyWalls y = two(places(30), places(0, 29, 32));
            dueJoined(y, 1, 0, 2, 0, 1);
            duePairs(y, 1);
            PartyWalls z = two(places(0, 10, 20), places(11, 22));
            dueJoined(z, 2, 0, 0, 1, 3);
            duePairs(z, -1, 0, 1);
        });
        Check.sentence("Terms 4: in it, or with the lower one, is ahead", () -> {
            duePairs(two(places(0, 20), places(10)), 0, -1);
            duePairs(two(places(10), places(0, 20)), 0);
            duePairs(two(places(5, 5), places(5)), 0, -1);
            duePairs(two(places(5), places(5, 5)), 0);
            duePairs(two(places(5, 5, 5), places(5, 5)), 0, 1, -1);
            duePairs(two(places(5, 5), places(5, 5, 5)), 0, 1);
            duePairs(two(places(0, 10, 20), places(5, 15)), 0, 1, -1);
            duePairs(two(places(10, 30), places(0, 20, 40)), 0, 1);
        });
    }

    private static void grown() {
        Check.sentence("Terms 4: if TRUE is wider after by more than season; else it is the SAME", () -> {
            for (int wider = -1; wider <= 12; wider++) {
                PartyWalls x = two(places(), places());
                x.crack(0, 0, 100);
                x.crack(1, 0, 100 + wider);
                dueJoined(x, wider > 10 ? 0 : 1, wider > 10 ? 1 : 0, 0, 0, 0);
                Check.rule(x, "season 0;");
                dueJoined(x, wider > 0 ? 0 : 1, wider > 0 ? 1 : 0, 0, 0, 0);
                Check.rule(x, "season " + 12 + ";");
                Check.due("by the rule now", x.joined(0, 1, 1), 0);
            }
            PartyWalls most = two(places(), places());
            most.crack(0, 0, 0);
            most.crack(1, 0, 10_000);
            Check.rule(most, "season 400;");
            Check.due("the widest", most.joined(0, 1, 1), 1);
            Check.due("the other way", most.joined(1, 0, 1), 0);
        });
        Check.sentence("Terms 4: its TRUE width is that less HABIT", () -> {
            PartyWalls x = new PartyWalls();
            x.hand(50);
            x.hand(-50);
            x.survey(0);
            x.survey(1);
            x.crack(0, 0, 0);
            x.crack(1, 0, 0);
            Check.rule(x, "season 99;");
            Check.due("-50 and 50", x.joined(0, 1, 1), 1);
            Check.due("50 and -50", x.joined(1, 0, 1), 0);
            Check.rule(x, "season 100;");
            Check.due("by 100", x.joined(0, 1, 1), 0);
        });
    }

    private static void joined() {
        Check.sentence("Terms 4: CRACKS in no pair are GONE (before) or NEW (after).", () -> {
            dueJoined(two(places(), places()), 0, 0, 0, 0, 0);
            dueJoined(two(places(5), places()), 0, 0, 0, 1, 0);
            dueJoined(two(places(), places(5)), 0, 0, 1, 0, 0);
            dueJoined(two(places(0, 1_000, 2_000), places(0, 3_000)), 1, 0, 1, 2, 0);
            dueJoined(two(new int[20], places()), 0, 0, 0, 20, 0);
            dueJoined(two(places(100), places(0, 100)), 1, 0, 1, 0, 0);
            dueJoined(two(places(0, 100), places(100)), 1, 0, 0, 1, 0);
        });
        Check.sentence("Promise 37: IllegalArgumentException: another what.", () ->
                Check.dueRange("what", 0, 4, what -> two(places(5), places(6)).joined(0, 1, what)));
        Check.sentence("Promise 37: 4 how far PLACES are apart together.", () -> {
            PartyWalls x = two(places(0, 200, 900), places(30, 190, 500));
            dueJoined(x, 2, 0, 1, 1, 40);
            int[] before = new int[20];
            int[] after = new int[20];
            for (int i = 0; i < 20; i++) {
                before[i] = 1_000 * i;
                after[i] = 1_000 * i + 400;
            }
            PartyWalls far = two(before, after);
            Check.rule(far, "near 400;");
            Check.due("with itself", far.joined(0, 0, 4), 0);
            dueJoined(far, 20, 0, 0, 0, 8_000);
            // What one join leaves behind is nothing to the next.
            far.survey(0);
            far.crack(2, 1_400, 0);
            Check.due("of fewer, behind", far.joined(2, 1, 4), 0);
            Check.due("of fewer, ahead", far.joined(1, 2, 4), 0);
            Check.due("of fewer, apart", far.joined(0, 2, 4), 400);
            Check.due("of one", far.joined(2, 2, 4), 0);
        });
    }

    private static void pair() {
        Check.sentence("Promise 38: NONE: it is GONE, or there is none.", () -> {
            PartyWalls x = two(places(0, 500), places(0, 900, 950));
            duePairs(x, 0, -1, -1);
            for (int k : new int[] {-1, 19, 20, Integer.MIN_VALUE, Integer.MAX_VALUE}) {
                Check.due("pair " + k, x.pair(0, 1, k), -1);
                Check.due("pair " + k + ", the other way", x.pair(1, 0, k), -1);
            }
            PartyWalls empty = two(places(), places());
            Check.due("of none", empty.pair(0, 1, 0), -1);
            PartyWalls full = two(new int[20], new int[20]);
            Check.due("the 20th", full.pair(0, 1, 19), 19);
            Check.due("no 21st", full.pair(0, 1, 20), -1);
        });
    }

    private static void gauge() {
        Check.sentence("Terms 4: GAUGES, numbered from 0 on, 10 at most", () -> {
            PartyWalls x = new PartyWalls();
            for (int i = 0; i < 10; i++) {
                Check.due("gauge", x.gauge(), i);
            }
        });
        Check.sentence("Promise 39: IllegalStateException: there are 10.", () -> {
            PartyWalls x = new PartyWalls();
            for (int i = 0; i < 10; i++) {
                x.gauge();
            }
            Check.dueThrows("11th", Check.STATE, x::gauge);
            Check.due("gauges", x.count(10), 10);
            Check.due("the 10th", x.read(9, 0, 5), 1);
        });
    }

    private static PartyWalls withGauge(int today) {
        PartyWalls x = new PartyWalls();
        x.gauge();
        x.wait(today);
        return x;
    }

    private static void read() {
        Check.sentence("Promise 40: -1: there are 40;", () -> {
            PartyWalls x = withGauge(100);
            for (int i = 1; i <= 40; i++) {
                Check.due("reading", x.read(0, i, i), i);
            }
            Check.due("41st", x.read(0, 41, 0), -1);
            Check.due("the 40th", x.at(0, 40), 40);
            Check.due("no 41st", x.at(0, 41), NO_VALUE);
        });
        Check.sentence("Promise 40: -2: the DAY is not behind the last one's,", () -> {
            PartyWalls x = withGauge(100);
            Check.due("the first, on 0", x.read(0, 0, 3), 1);
            Check.due("the same day", x.read(0, 0, 4), -2);
            Check.due("a day behind", x.read(0, 1, 5), 2);
            Check.due("the same day", x.read(0, 1, 6), -2);
            Check.due("a day ahead", x.read(0, 0, 6), -2);
            Check.due("nothing comes of it", x.at(0, 1), 5);
            Check.due("a third", x.read(0, 2, 5), 3);
        });
        Check.sentence("Promise 40: or behind today", () -> {
            PartyWalls x = withGauge(7);
            Check.due("tomorrow", x.read(0, 8, 0), -2);
            Check.due("far on", x.read(0, Integer.MAX_VALUE, 0), -2);
            Check.due("today", x.read(0, 7, 0), 1);
            Check.due("tomorrow", x.read(0, 8, 0), -2);
            x.wait(1);
            Check.due("it is today", x.read(0, 8, 0), 2);
        });
        Check.sentence("Promise 40: (the first of these)", () -> {
            PartyWalls x = withGauge(100);
            for (int i = 0; i < 40; i++) {
                x.read(0, i, 0);
            }
            Check.due("-1 ahead of -2, not behind", x.read(0, 5, 0), -1);
            Check.due("-1 ahead of -2, behind today", x.read(0, 101, 0), -1);
        });
        Check.sentence("Promise 40: IndexOutOfBoundsException: no such GAUGE (so below);", () -> {
            Check.dueThrows("no gauges", Check.INDEX, () -> new PartyWalls().read(0, 0, 0));
            Check.dueNumbers("read", 1, gauge -> withGauge(5).read(gauge, 0, 0));
            Check.dueNumbers("at", 1, gauge -> withGauge(5).at(gauge, 0));
            Check.dueThrows("and no day", Check.INDEX, () -> withGauge(5).read(1, -1, 10_001));
        });
        Check.sentence("Promise 40: IllegalArgumentException: the DAY is below 0,", () -> {
            for (int day : new int[] {-1, -2, Integer.MIN_VALUE}) {
                Check.dueThrows("day " + day, Check.ARGUMENT, () -> withGauge(5).read(0, day, 0));
            }
            Check.due("day 0", withGauge(5).read(0, 0, 0), 1);
        });
        Check.sentence("Promise 40: or the value is none such.", () -> {
            Check.dueRange("value", -10_000, 10_000, value -> withGauge(5).read(0, 0, value));
            Check.dueThrows("and behind today", Check.ARGUMENT, () -> withGauge(5).read(0, 6, 10_001));
            PartyWalls x = withGauge(100);
            for (int i = 0; i < 40; i++) {
                x.read(0, i, 0);
            }
            Check.dueThrows("of a 41st", Check.ARGUMENT, () -> x.read(0, 50, -10_001));
            Check.dueThrows("day of a 41st", Check.ARGUMENT, () -> x.read(0, -1, 0));
        });
    }

    private static void at() {
        Check.sentence("Terms 4: ahead of the first, and behind the last one: none", () -> {
            PartyWalls x = withGauge(100);
            for (int day : new int[] {0, -1, 100, Integer.MIN_VALUE, Integer.MAX_VALUE}) {
                Check.due("no readings, day " + day, x.at(0, day), NO_VALUE);
            }
            x.read(0, 10, 7);
            Check.due("a day ahead of the one", x.at(0, 9), NO_VALUE);
            Check.due("a day behind the one", x.at(0, 11), NO_VALUE);
            x.read(0, 20, 9);
            for (int day : new int[] {9, 0, -1, 21, 100, Integer.MIN_VALUE, Integer.MAX_VALUE}) {
                Check.due("two readings, day " + day, x.at(0, day), NO_VALUE);
            }
        });
        Check.sentence("Terms 4: on its DAY one itself", () -> {
            PartyWalls x = withGauge(100);
            x.read(0, 10, -10_000);
            Check.due("the only one", x.at(0, 10), -10_000);
            x.read(0, 11, 10_000);
            x.read(0, 40, -3);
            Check.due("the first", x.at(0, 10), -10_000);
            Check.due("between", x.at(0, 11), 10_000);
            Check.due("the last", x.at(0, 40), -3);
        });
        Check.sentence("Terms 4: between two READINGS on the straight line, rounded down", () -> {
            PartyWalls x = withGauge(100);
            x.read(0, 0, 0);
            x.read(0, 3, 2);
            x.read(0, 6, 0);
            x.read(0, 9, -2);
            int[] want = {0, 0, 1, 2, 1, 0, 0, -1, -2, -2};
            for (int day = 0; day < want.length; day++) {
                Check.due("day " + day, x.at(0, day), want[day]);
            }
            PartyWalls far = withGauge(10_000);
            for (int i = 1; i < 100; i++) {
                far.wait(10_000);
            }
            far.read(0, 0, 10_000);
            far.read(0, 1_000_000, -10_000);
            Check.due("half the way", far.at(0, 500_000), 0);
            Check.due("a day more, down", far.at(0, 500_001), -1);
            Check.due("near the end, down", far.at(0, 999_999), -10_000);
            Check.due("near the first, down", far.at(0, 1), 9_999);
        });
    }

    /** WORK 0 is BEGUN on DAY 10; today is 30; GAUGES 0 and 1 have READINGS of 0 on 0 and 30. */
    private static PartyWalls begun() {
        PartyWalls x = begunBare();
        for (int gauge = 0; gauge < 2; gauge++) {
            x.read(gauge, 0, 0);
            x.read(gauge, 30, 0);
        }
        return x;
    }

    private static PartyWalls begunBare() {
        PartyWalls x = Check.withWall(2, "raise 10 if depth>0;");
        x.gauge();
        x.gauge();
        x.work(0, 0, 0, 0, 0, 0);
        x.wait(10);
        x.begin(0);
        x.wait(20);
        return x;
    }

    private static void dueCauses(String when, PartyWalls x, int work, int to, long... want) {
        for (int what = 0; what < 4; what++) {
            Check.due(when + ", cause " + what, x.cause(0, 1, work, to, what), want[what]);
        }
    }

    private static void dueNone(String when, PartyWalls x, int work, int to) {
        dueCauses(when, x, work, to, NO_VALUE, NO_VALUE, NO_VALUE, NO_VALUE);
        Check.due(when + ", blamed", x.blamed(0, 1, work, to), false);
    }

    private static void causeRefused() {
        Check.sentence("Promise 42: IndexOutOfBoundsException (no such GAUGE, no such WORK)", () -> {
            Check.dueNumbers("gauge", 2, gauge -> begun().cause(gauge, 1, 0, 20, 0));
            Check.dueNumbers("far", 2, far -> begun().cause(0, far, 0, 20, 0));
            Check.dueNumbers("work", 1, work -> begun().cause(0, 1, work, 20, 0));
            Check.dueThrows("and no what", Check.INDEX, () -> begun().cause(0, 2, 0, 20, 4));
        });
        Check.sentence("Promise 42: IllegalArgumentException: another what.", () -> {
            Check.dueRange("what", 0, 3, what -> begun().cause(0, 1, 0, 20, what));
            Check.dueRange("what, of none", 0, 3, what -> begunBare().cause(0, 1, 0, 20, what));
        });
        Check.sentence("Promise 43: IndexOutOfBoundsException (no such GAUGE, no such WORK)", () -> {
            Check.dueNumbers("gauge", 2, gauge -> begun().blamed(gauge, 1, 0, 20) ? 1 : 0);
            Check.dueNumbers("far", 2, far -> begun().blamed(0, far, 0, 20) ? 1 : 0);
            Check.dueNumbers("work", 1, work -> begun().blamed(0, 1, work, 20) ? 1 : 0);
        });
    }

    private static void causeNone() {
        Check.sentence("Promise 42: VOIDED: none, also of a WORK not begun,", () -> {
            PartyWalls x = begun();
            int free = x.work(0, 0, 0, 0, 0, 0);
            int planned = x.work(0, 0, 0, 1, 0, 0);
            dueNone("free", x, free, 30);
            dueNone("planned", x, planned, 30);
            x.notice(planned);
            dueNone("asked", x, planned, 30);
            x.answer(planned, true);
            dueNone("allowed", x, planned, 30);
        });
        Check.sentence("Promise 42: or VOID,", () -> {
            PartyWalls x = begunBare();
            x.read(0, 0, 0);
            x.read(1, 0, 0);
            int planned = x.work(0, 0, 0, 1, 0, 0);
            x.begin(planned);
            x.wait(1);
            x.read(0, 31, 500);
            x.read(1, 31, 0);
            dueNone("void", x, planned, 31);
            dueCauses("begun", x, 0, 31, 339, 0, 338, 1);
        });
        Check.sentence("Promise 42: or TO not behind its begin.", () -> {
            PartyWalls x = begun();
            for (int to : new int[] {10, 9, 0, -1, Integer.MIN_VALUE}) {
                dueNone("to " + to, x, 0, to);
            }
            dueCauses("to 11", x, 0, 11, 0, 0, 0, 0);
        });
        Check.sentence("Terms 4: None, if one AT is none.", () -> {
            int[][] firsts = {{0, 0}, {10, 10}, {11, 0}, {0, 11}, {0, 0}, {0, 0}};
            int[][] lasts = {{20, 20}, {20, 20}, {20, 20}, {20, 20}, {19, 20}, {20, 19}};
            for (int i = 0; i < firsts.length; i++) {
                PartyWalls x = begunBare();
                for (int gauge = 0; gauge < 2; gauge++) {
                    x.read(gauge, firsts[i][gauge], 0);
                    x.read(gauge, lasts[i][gauge], 0);
                }
                if (i < 2) {
                    dueCauses("all are there, " + i, x, 0, 20, 0, 0, 0, 0);
                } else {
                    dueNone("one is none, " + i, x, 0, 20);
                }
            }
            dueNone("no readings", begunBare(), 0, 20);
            dueNone("behind the last of both", begun(), 0, 31);
            dueNone("to the most", begun(), 0, Integer.MAX_VALUE);
        });
        Check.sentence("Terms 4: of a WORK that was begun", () -> {
            PartyWalls x = begun();
            x.done(0);
            dueCauses("done", x, 0, 20, 0, 0, 0, 0);
            PartyWalls y = Check.withWall(2, "");
            y.gauge();
            y.gauge();
            y.work(0, 0, 0, 0, 0, 0);
            y.notice(0);
            y.answer(0, false);
            for (int side = 0; side < 2; side++) {
                y.appoint(0, side, y.surveyor(0), side);
            }
            y.propose(0, 0, 0, 817, 0);
            y.propose(0, 1, 0, 817, 0);
            y.begin(0);
            y.read(0, 0, 0);
            y.read(1, 0, 0);
            y.wait(3);
            y.read(0, 3, 9);
            y.read(1, 3, 4);
            dueCauses("begun", y, 0, 3, 9, 4, 0, 5);
            y.appeal(0);
            dueNone("not any more", y, 0, 3);
        });
    }

    private static void causes() {
        Check.sentence("Terms 4: GREW: the GAUGE AT TO less AT FROM; SEASON: the far one's likewise", () -> {
            PartyWalls x = begunBare();
            x.read(0, 10, 10_000);
            x.read(0, 30, -10_000);
            x.read(1, 9, 0);
            x.read(1, 11, 3);
            x.read(1, 30, 100);
            // AT 10 of the far one is 1, rounded down from one and a half.
            dueCauses("to the last", x, 0, 30, -20_000, 99, 0, -20_099);
            dueCauses("to the first day", x, 0, 11, -1_000, 2, 0, -1_002);
            Check.due("by one gauge alone", x.cause(0, 0, 0, 30, 3), 0);
        });
        Check.sentence("Terms 4: WORKS: GREW less SEASON less AGE", () -> {
            PartyWalls x = begunBare();
            x.read(0, 0, 0);
            x.read(0, 10, 20);
            x.read(0, 20, 100);
            x.read(1, 10, 0);
            x.read(1, 20, 7);
            dueCauses("to 20", x, 0, 20, 80, 7, 20, 53);
        });
    }

    private static void age() {
        Check.sentence("Terms 4: by the DAYS from the first READING to FROM, rounded down", () -> {
            PartyWalls x = begunBare();
            x.read(0, 3, 5);
            x.read(0, 10, 4);
            x.read(0, 30, 4);
            x.read(1, 0, 0);
            x.read(1, 30, 0);
            int[] want = {-1, -1, -1, -1, -1, -1, -1, -2, -2};
            for (int i = 0; i < want.length; i++) {
                Check.due("less, to " + (11 + i), x.cause(0, 1, 0, 11 + i, 2), want[i]);
            }
            PartyWalls y = begunBare();
            y.read(0, 3, 5);
            y.read(0, 10, 6);
            y.read(0, 30, 6);
            y.read(1, 0, 0);
            y.read(1, 30, 0);
            Check.due("more, to 16", y.cause(0, 1, 0, 16, 2), 0);
            Check.due("more, to 17", y.cause(0, 1, 0, 17, 2), 1);
            Check.due("more, to 30", y.cause(0, 1, 0, 30, 2), 2);
        });
        Check.sentence("Terms 4: (0, if these are 0)", () -> {
            PartyWalls x = begunBare();
            x.read(0, 10, 50);
            x.read(0, 30, 70);
            x.read(1, 0, 0);
            x.read(1, 30, 30);
            dueCauses("the first reading on the day of begin", x, 0, 30, 20, 20, 0, 0);
        });
        Check.sentence("Promise 42: long cause: more than an int holds", () -> {
            PartyWalls x = Check.withWall(2, "raise 0 if depth>0;");
            x.gauge();
            x.gauge();
            x.work(0, 0, 0, 0, 0, 0);
            x.wait(1);
            x.begin(0);
            for (int i = 0; i < 99; i++) {
                x.wait(10_000);
            }
            x.wait(9_999);
            x.read(0, 0, -10_000);
            x.read(0, 1, 10_000);
            x.read(0, 1_000_000, 0);
            x.read(1, 1, 0);
            x.read(1, 1_000_000, 0);
            long age = 20_000L * 999_999;
            dueCauses("far on", x, 0, 1_000_000, -10_000, 0, age, -10_000 - age);
            Check.due("far below", x.blamed(0, 1, 0, 1_000_000), false);
        });
    }

    private static void blamed() {
        Check.sentence("Terms 4: BLAMED is the WORK, if WORKS is above season.", () -> {
            for (int grew = -1; grew <= 13; grew++) {
                PartyWalls x = begunBare();
                x.read(0, 10, 0);
                x.read(0, 20, grew);
                x.read(1, 10, 0);
                x.read(1, 20, 0);
                Check.due("season 10, " + grew, x.blamed(0, 1, 0, 20), grew > 10);
                Check.rule(x, "season 0;");
                Check.due("season 0, " + grew, x.blamed(0, 1, 0, 20), grew > 0);
                Check.rule(x, "season 12;");
                Check.due("season 12, by the rule now, " + grew, x.blamed(0, 1, 0, 20), grew > 12);
            }
        });
        Check.sentence("Promise 43: Whether the WORK is BLAMED: far above what an int holds", () -> {
            PartyWalls x = Check.withWall(2, "raise 0 if depth>0;");
            x.gauge();
            x.gauge();
            x.work(0, 0, 0, 0, 0, 0);
            x.wait(1);
            x.begin(0);
            for (int i = 0; i < 99; i++) {
                x.wait(10_000);
            }
            x.read(0, 0, 10_000);
            x.read(0, 1, -2_000);
            x.read(0, 990_001, 0);
            x.read(1, 1, 0);
            x.read(1, 990_001, 0);
            Check.due("works", x.cause(0, 1, 0, 990_001, 3), 2_000 + 12_000L * 990_000);
            Check.due("blamed", x.blamed(0, 1, 0, 990_001), true);
        });
    }
}
