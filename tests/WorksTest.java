/** Promises 10 to 23: WORKS, notice and silence, disputes, awards, entries. */
public final class WorksTest {
    private static final String PLAIN = "post 2;rest 0 6;reply 3;appoint 2;appeal 5;hours 9-16;";

    public static void main(String[] args) {
        promise10();
        promise10Limits();
        promise10OwnRule();
        promise11();
        promise12();
        promise13();
        promise14();
        promise14Begun();
        promise15();
        promise16();
        promise16Barred();
        promise17();
        promise17None();
        promise18();
        promise18Award();
        promise19();
        promise19Begun();
        promise20();
        promise21();
        promise22();
        promise22Full();
        promise23();
        Check.end();
    }

    /** A WORK of a SIDE of WALL 0, in DISPUTE from today on. */
    private static int dispute(PartyWalls x, int side) {
        int work = x.work(0, side, 0, 0, 0, 0);
        int arrival = x.notice(work);
        x.wait(arrival - x.count(3));
        x.answer(work, false);
        return work;
    }

    private static void dueState(PartyWalls x, String text, boolean needs, int depth, int close, int height) {
        Check.rule(x, "cover 3 if " + text + ";");
        int work = x.work(0, 0, 3, depth, close, height);
        Check.due("'" + text + "' of " + depth + ", " + close + ", " + height, x.state(work), needs ? 0 : 1);
    }

    private static void promise10() {
        PartyWalls x = Check.withWall(2, "raise 3 if depth < 5;cut 2;");
        Check.due("first", x.work(0, 0, 0, 4, 0, 0), 0);
        Check.due("second", x.work(0, 1, 0, 5, 9_999, 9_999), 1);
        Check.due("third", x.work(0, 1, 1, 9_999, 0, 0), 2);
        Check.due("a sort without a clause", x.work(0, 1, 3, 0, 0, 0), 3);
        Check.due("below 5", x.state(0), 0);
        Check.due("not below 5", x.state(1), 1);
        Check.due("without if", x.state(2), 0);
        Check.due("without clause", x.state(3), 0);
        PartyWalls y = Check.withWall(2, "");
        dueState(y, "depth<5", false, 5, 0, 0);
        dueState(y, "depth<5", true, 4, 0, 0);
        dueState(y, "close>5", false, 9, 5, 9);
        dueState(y, "close>5", true, 0, 6, 0);
        dueState(y, "height<0", false, 0, 0, 0);
        dueState(y, "height>9998", true, 0, 0, 9_999);
        dueState(y, "not height>9998", false, 0, 0, 9_999);
        dueState(y, "not not height>9998", true, 0, 0, 9_999);
        dueState(y, "depth>1 or close>1 and height>1", true, 2, 0, 0);
        dueState(y, "(depth>1 or close>1) and height>1", false, 2, 0, 0);
        dueState(y, "height>1 and close>1 or depth>1", true, 2, 0, 0);
        dueState(y, "height>1 and (close>1 or depth>1)", false, 2, 0, 0);
        dueState(y, "not depth>1 or close>1", true, 2, 2, 0);
        dueState(y, "not (depth>1 or close>1)", false, 2, 2, 0);
        dueState(y, "not depth>1 and close<1", false, 2, 0, 0);
        dueState(y, "not (depth>1 and close>1)", true, 2, 0, 0);
        dueState(y, "depth<1 or depth<1 or depth<1 or depth>1", true, 2, 0, 0);
        dueState(y, "depth>1 and depth>1 and depth>1 and depth<1", false, 2, 0, 0);
        dueState(y, "(((((((depth>1 and (close>1))))))))", true, 2, 2, 0);
    }

    private static void promise10Limits() {
        PartyWalls x = Check.withWall(2, "");
        Check.dueThrows("no wall", Check.INDEX, () -> x.work(1, 0, 0, 0, 0, 0));
        Check.dueThrows("wall -1", Check.INDEX, () -> x.work(-1, 9, 0, 0, 0, 0));
        Check.dueThrows("side 2", Check.ARGUMENT, () -> x.work(0, 2, 0, 0, 0, 0));
        Check.dueThrows("side -1", Check.ARGUMENT, () -> x.work(0, -1, 0, 0, 0, 0));
        Check.dueThrows("sort 4", Check.ARGUMENT, () -> x.work(0, 0, 4, 0, 0, 0));
        Check.dueThrows("sort -1", Check.ARGUMENT, () -> x.work(0, 0, -1, 0, 0, 0));
        Check.dueThrows("depth -1", Check.ARGUMENT, () -> x.work(0, 0, 0, -1, 0, 0));
        Check.dueThrows("depth", Check.ARGUMENT, () -> x.work(0, 0, 0, 10_000, 0, 0));
        Check.dueThrows("close -1", Check.ARGUMENT, () -> x.work(0, 0, 0, 0, -1, 0));
        Check.dueThrows("close", Check.ARGUMENT, () -> x.work(0, 0, 0, 0, 10_000, 0));
        Check.dueThrows("height -1", Check.ARGUMENT, () -> x.work(0, 0, 0, 0, 0, -1));
        Check.dueThrows("height", Check.ARGUMENT, () -> x.work(0, 0, 0, 0, 0, 10_000));
        for (int i = 0; i < 30; i++) {
            Check.due("work", x.work(0, i % 2, i % 4, 0, 0, 0), i);
        }
        Check.dueThrows("31st", Check.STATE, () -> x.work(0, 0, 0, 0, 0, 0));
        Check.dueThrows("31st, no wall", Check.INDEX, () -> x.work(7, 0, 0, 0, 0, 0));
        Check.dueThrows("31st, no sort", Check.ARGUMENT, () -> x.work(0, 0, 7, 0, 0, 0));
        PartyWalls y = Check.withWall(2, "rest 6 5 4 3 2 1 0;");
        Check.dueThrows("all rest", Check.STATE, () -> y.work(0, 0, 0, 0, 0, 0));
        Check.dueThrows("all rest, no sort", Check.ARGUMENT, () -> y.work(0, 0, 4, 0, 0, 0));
        Check.due("none was made", y.count(2), 0);
    }

    private static void promise10OwnRule() {
        PartyWalls x = Check.withWall(2, "raise 9;post 3;reply 4;silence consent;hours 2-3;");
        x.work(0, 0, 0, 0, 0, 0);
        Check.rule(x, "rest 0 1 2 3 4 5 6;raise 1 if depth>5;post 9;reply 8;hours 4-5;");
        Check.due("by its rule it is planned", x.state(0), 0);
        Check.due("by its rule it arrives", x.notice(0), 3);
        Check.due("by its rule it is answered", x.told(0, 5), 7);
        Check.due("by its rule from", x.told(0, 2), 2);
        Check.due("by its rule to", x.told(0, 3), 3);
        x.wait(8);
        Check.due("by its rule silence consents", x.state(0), 3);
        Check.due("by its rule allowed", x.told(0, 0), 12);
    }

    private static void promise11() {
        PartyWalls x = Check.withWall(2, PLAIN);
        x.work(0, 0, 0, 0, 0, 0);
        Check.dueThrows("no work", Check.INDEX, () -> x.state(1));
        Check.dueThrows("work -1", Check.INDEX, () -> x.state(-1));
        Check.due("planned", x.state(0), 0);
        x.notice(0);
        Check.due("asked", x.state(0), 2);
        x.wait(5);
        Check.due("asked on the last day", x.state(0), 2);
        x.wait(1);
        Check.due("dispute by silence", x.state(0), 4);
        Check.due("from the first day not asked", x.told(0, 1), 6);
        x.wait(30);
        Check.due("it stays so, looked at late", x.told(0, 1), 6);
        PartyWalls y = Check.withWall(2, "cut 5;silence consent;reply 2;");
        y.work(0, 1, 1, 0, 0, 0);
        y.notice(0);
        y.wait(100);
        Check.due("consent by silence", y.state(0), 3);
        Check.due("from arrival", y.told(0, 0), 5);
    }

    private static void promise12() {
        PartyWalls x = Check.withWall(2, "post 400;raise 3 if depth>0;");
        x.work(0, 0, 0, 1, 0, 0);
        x.work(0, 0, 0, 0, 0, 0);
        x.wait(5);
        Check.due("arrives", x.notice(0), 405);
        Check.due("asked", x.notice(0), -1);
        Check.due("free", x.notice(1), -1);
        Check.dueThrows("no work", Check.INDEX, () -> x.notice(2));
        Check.dueThrows("work -1", Check.INDEX, () -> x.notice(-1));
        PartyWalls y = Check.withWall(2, "post 6;rest 1 2 3;");
        y.work(0, 0, 0, 0, 0, 0);
        Check.due("days of rest count for the post", y.notice(0), 6);
        y.begin(0);
        Check.due("void", y.notice(0), -1);
    }

    private static void promise13() {
        PartyWalls x = Check.withWall(2, PLAIN + "raise 7;");
        x.work(0, 0, 0, 0, 0, 0);
        x.work(0, 0, 0, 0, 0, 0);
        Check.due("planned", x.answer(0, true), -1);
        x.notice(0);
        x.notice(1);
        x.wait(1);
        Check.due("not arrived", x.answer(0, true), -2);
        x.wait(1);
        Check.due("consent", x.answer(0, true), 1);
        Check.due("allowed", x.state(0), 3);
        Check.due("from", x.told(0, 0), 9);
        Check.due("no second one", x.answer(0, false), -1);
        x.wait(3);
        Check.due("dissent on the last day", x.answer(1, false), 1);
        Check.due("dispute", x.state(1), 4);
        Check.due("from that day", x.told(1, 1), 5);
        Check.due("no second one", x.answer(1, true), -1);
        Check.dueThrows("no work", Check.INDEX, () -> x.answer(2, true));
        x.work(0, 0, 0, 0, 0, 0);
        x.notice(2);
        x.wait(100);
        Check.due("too late", x.answer(2, true), -1);
    }

    private static void dueTold(String when, PartyWalls x, int work, int... want) {
        for (int what = 0; what < want.length; what++) {
            Check.due(when + ", told " + what, x.told(work, what), want[what]);
        }
    }

    private static void promise14() {
        PartyWalls x = Check.withWall(2, PLAIN + "raise 7;");
        int work = x.work(0, 1, 0, 0, 0, 0);
        dueTold("planned", x, work, -1, -1, 9, 16, 100, -1, -1, -1);
        x.notice(work);
        dueTold("asked", x, work, -1, -1, 9, 16, 100, 5, -1, -1);
        x.wait(3);
        x.answer(work, false);
        dueTold("dispute", x, work, -1, 3, 9, 16, 100, -1, -1, -1);
        x.surveyor(0);
        x.surveyor(0);
        x.appoint(work, 0, 0, 0);
        x.appoint(work, 1, 1, 1);
        x.wait(1);
        x.propose(work, 0, 20, 24, 0);
        x.propose(work, 1, 20, 24, 0);
        dueTold("awarded", x, work, 20, -1, 0, 24, 0, -1, 11, -1);
        x.wait(1);
        x.appeal(work);
        dueTold("appealed", x, work, -1, 5, 9, 16, 100, -1, -1, -1);
        Check.dueThrows("told 8", Check.ARGUMENT, () -> x.told(work, 8));
        Check.dueThrows("told -1", Check.ARGUMENT, () -> x.told(work, -1));
        Check.dueThrows("no work", Check.INDEX, () -> x.told(1, 9));
        Check.dueThrows("work -1", Check.INDEX, () -> x.told(-1, 0));
    }

    private static void promise14Begun() {
        PartyWalls x = Check.withWall(2, "raise 1;cut 0;dig 3 if depth>0;reply 3;");
        for (int sort = 0; sort < 3; sort++) {
            x.work(0, 0, sort, 0, 0, 0);
        }
        x.notice(0);
        x.notice(1);
        x.answer(0, true);
        x.answer(1, true);
        x.begin(0);
        x.begin(1);
        x.begin(2);
        dueTold("void ahead of its day", x, 0, 1, -1, 8, 17, 100, -1, -1, 0);
        dueTold("begun allowed", x, 1, 0, -1, 8, 17, 100, -1, -1, 0);
        dueTold("begun free", x, 2, -1, -1, 8, 17, 100, -1, -1, 0);
        x.done(1);
        dueTold("done", x, 1, 0, -1, 8, 17, 100, -1, -1, 0);
        x.work(0, 0, 0, 0, 0, 0);
        x.notice(3);
        x.wait(2);
        x.begin(3);
        dueTold("void asked", x, 3, -1, -1, 8, 17, 100, -1, -1, 2);
        x.wait(50);
        Check.due("void stays", x.state(3), 6);
        int disputed = dispute(x, 0);
        x.begin(disputed);
        dueTold("void in dispute", x, disputed, -1, -1, 8, 17, 100, -1, -1, 52);
    }

    private static void promise15() {
        PartyWalls x = new PartyWalls();
        Check.dueThrows("kin to none", Check.ARGUMENT, () -> x.surveyor(1));
        Check.due("kin 0", x.surveyor(0), 0);
        x.owner();
        x.owner();
        Check.due("kin 3", x.surveyor(3), 1);
        Check.dueThrows("kin 4", Check.ARGUMENT, () -> x.surveyor(4));
        Check.dueThrows("kin -1", Check.ARGUMENT, () -> x.surveyor(-1));
        Check.dueThrows("kin least", Check.ARGUMENT, () -> x.surveyor(Integer.MIN_VALUE));
        for (int i = 0; i < 18; i++) {
            x.owner();
        }
        Check.due("kin to all", x.surveyor((1 << 20) - 1), 2);
        Check.dueThrows("kin to a 21st", Check.ARGUMENT, () -> x.surveyor(1 << 20));
        for (int i = 3; i < 12; i++) {
            Check.due("surveyor", x.surveyor(i), i);
        }
        Check.dueThrows("13th", Check.STATE, () -> x.surveyor(0));
        Check.dueThrows("13th, none such", Check.ARGUMENT, () -> x.surveyor(1 << 20));
    }

    private static void promise16() {
        PartyWalls x = Check.withWall(3, PLAIN);
        x.surveyor(0);
        x.surveyor(2);
        x.surveyor(4);
        int planned = x.work(0, 0, 0, 0, 0, 0);
        int work = dispute(x, 0);
        Check.due("no dispute", x.appoint(planned, 0, 1, 1), -1);
        Check.dueThrows("no work", Check.INDEX, () -> x.appoint(2, 0, 0, 0));
        Check.dueThrows("no surveyor", Check.INDEX, () -> x.appoint(work, 0, 3, 0));
        Check.dueThrows("surveyor -1", Check.INDEX, () -> x.appoint(work, 9, -1, 0));
        Check.dueThrows("side 2", Check.ARGUMENT, () -> x.appoint(work, 2, 0, 0));
        Check.dueThrows("side -1", Check.ARGUMENT, () -> x.appoint(work, -1, 0, 0));
        Check.dueThrows("by 2", Check.ARGUMENT, () -> x.appoint(work, 0, 0, 2));
        Check.dueThrows("by -1", Check.ARGUMENT, () -> x.appoint(planned, 0, 0, -1));
        Check.due("too early", x.appoint(work, 1, 1, 0), -3);
        Check.due("barred", x.appoint(work, 1, 1, 1), -4);
        Check.due("appointed", x.appoint(work, 0, 0, 0), 1);
        Check.due("has one", x.appoint(work, 0, 1, 1), -2);
        Check.due("the other side's", x.appoint(work, 1, 0, 1), -5);
        // The dispute is from DAY 2 on; two days COUNTED behind it is DAY 4.
        x.wait(2);
        Check.due("on the last of the days", x.appoint(work, 1, 2, 0), -3);
        x.wait(1);
        Check.due("behind them, barred", x.appoint(work, 1, 1, 0), -4);
        Check.due("behind them", x.appoint(work, 1, 2, 0), 1);
        Check.due("both have one", x.appoint(work, 1, 2, 0), -2);
        x.begin(work);
        Check.due("void", x.appoint(work, 1, 2, 0), -1);
        // From a Friday (5) on, two days COUNTED are the Monday and the Tuesday.
        PartyWalls y = Check.withWall(2, PLAIN);
        y.surveyor(0);
        y.wait(3);
        int late = dispute(y, 0);
        y.wait(4);
        Check.due("on the Tuesday", y.appoint(late, 1, 0, 0), -3);
        y.wait(1);
        Check.due("on the Wednesday", y.appoint(late, 1, 0, 0), 1);
    }

    private static void promise16Barred() {
        PartyWalls x = Check.withWall(3, PLAIN);
        for (int kin = 0; kin < 8; kin++) {
            x.surveyor(kin);
        }
        int work = dispute(x, 0);
        Check.due("kin to side 0", x.appoint(work, 0, 1, 0), -4);
        Check.due("kin to side 1", x.appoint(work, 0, 2, 0), -4);
        Check.due("kin to another", x.appoint(work, 0, 4, 0), 1);
        x.sell(0, 0, 2);
        Check.due("who is appointed stays", x.surveys(work, 0), 4);
        Check.due("kin to who sold", x.appoint(work, 1, 5, 1), -4);
        Check.due("kin to who sold only", x.appoint(work, 1, 1, 1), 1);
        Check.due("third is not kin to who bought", x.surveys(work, 2), 0);
    }

    private static void promise17() {
        PartyWalls x = Check.withWall(3, "reply 400;");
        for (int i = 0; i < 5; i++) {
            x.surveyor(i == 1 ? 1 : 0);
        }
        int[][] appointed = {{0, 2}, {0, 2}, {3, 4}, {0, 2}, {2, 3}, {4, 3}};
        // Thirds of 3, 4, 0; then 3 again (of 3 and 4, once each), then 0 and 4 once each; then 2.
        int[] thirds = {3, 4, 0, 3, 0, 2};
        for (int i = 0; i < thirds.length; i++) {
            int work = dispute(x, i % 2);
            Check.due("side 0, none", x.surveys(work, 0), -1);
            x.appoint(work, 1, appointed[i][1], 1);
            Check.due("third, one appointed", x.surveys(work, 2), -1);
            x.appoint(work, 0, appointed[i][0], 0);
            Check.due("side 0", x.surveys(work, 0), appointed[i][0]);
            Check.due("side 1", x.surveys(work, 1), appointed[i][1]);
            Check.due("third of " + i, x.surveys(work, 2), thirds[i]);
        }
        Check.dueThrows("no work", Check.INDEX, () -> x.surveys(9, 0));
        Check.dueThrows("which 3", Check.ARGUMENT, () -> x.surveys(0, 3));
        Check.dueThrows("which -1", Check.ARGUMENT, () -> x.surveys(0, -1));
        x.begin(0);
        Check.due("void has them still", x.surveys(0, 2), 3);
    }

    private static void promise17None() {
        PartyWalls x = Check.withWall(3, "");
        x.surveyor(0);
        x.surveyor(0);
        x.surveyor(2);
        int work = dispute(x, 0);
        x.appoint(work, 0, 0, 0);
        x.appoint(work, 1, 1, 1);
        Check.due("no third", x.surveys(work, 2), -1);
        x.surveyor(0);
        Check.due("it stays so", x.surveys(work, 2), -1);
        Check.due("no proposal of it", x.propose(work, 2, 9, 817, 5), -2);
    }

    private static void promise18() {
        PartyWalls x = Check.withWall(2, "");
        x.wait(10);
        int work = dispute(x, 0);
        Check.dueThrows("no work", Check.INDEX, () -> x.propose(1, 0, 10, 817, 5));
        Check.dueThrows("which 3", Check.ARGUMENT, () -> x.propose(work, 3, 10, 817, 5));
        Check.dueThrows("which -1", Check.ARGUMENT, () -> x.propose(work, -1, 10, 817, 5));
        Check.dueThrows("yesterday", Check.ARGUMENT, () -> x.propose(work, 0, 9, 817, 5));
        Check.dueThrows("share -1", Check.ARGUMENT, () -> x.propose(work, 0, 10, 817, -1));
        Check.dueThrows("share 101", Check.ARGUMENT, () -> x.propose(work, 0, 10, 817, 101));
        for (int hours : new int[] {-1, 0, 25, 808, 1708, 825, 2424, 2425, 2500, -817, 10_017, 2_147_483_624}) {
            Check.dueThrows("hours " + hours, Check.ARGUMENT, () -> x.propose(work, 0, 10, hours, 5));
        }
        Check.due("no surveyor", x.propose(work, 0, 10, 817, 5), -2);
        x.surveyor(0);
        x.appoint(work, 1, 0, 1);
        Check.due("no surveyor still", x.propose(work, 0, 10, 817, 5), -2);
        Check.due("hours 1 to 24", x.propose(work, 1, 10, 124, 0), 0);
        Check.due("hours 0 to 8", x.propose(work, 1, 10, 8, 100), 0);
        Check.due("hours 23 to 24", x.propose(work, 1, Integer.MAX_VALUE, 2324, 100), 0);
        Check.due("the same of the same", x.propose(work, 1, Integer.MAX_VALUE, 2324, 100), 0);
        int planned = x.work(0, 0, 0, 0, 0, 0);
        Check.due("no dispute", x.propose(planned, 0, 10, 817, 5), -1);
        Check.dueThrows("no dispute, yesterday", Check.ARGUMENT, () -> x.propose(planned, 0, 9, 817, 5));
    }

    private static PartyWalls withSurveyors(String text) {
        PartyWalls x = Check.withWall(2, text);
        int work = dispute(x, 1);
        for (int i = 0; i < 3; i++) {
            x.surveyor(0);
        }
        x.appoint(work, 0, 0, 0);
        x.appoint(work, 1, 1, 1);
        return x;
    }

    private static void promise18Award() {
        PartyWalls x = withSurveyors("rest 6;appeal 3;");
        Check.due("stands", x.propose(0, 0, 8, 817, 50), 0);
        Check.due("another day", x.propose(0, 1, 9, 817, 50), 0);
        Check.due("another hour", x.propose(0, 2, 8, 818, 50), 0);
        Check.due("another share", x.propose(0, 1, 8, 817, 51), 0);
        Check.due("a new one is instead", x.propose(0, 0, 8, 817, 52), 0);
        Check.due("not like the one replaced", x.propose(0, 2, 8, 817, 50), 0);
        Check.due("dispute still", x.state(0), 4);
        x.wait(2);
        Check.due("alike with the third", x.propose(0, 1, 8, 817, 50), 1);
        Check.due("allowed", x.state(0), 3);
        dueTold("awarded", x, 0, 8, -1, 8, 17, 50, -1, 5, -1);
        Check.due("no dispute any more", x.propose(0, 0, 8, 817, 52), -1);
        x.appeal(0);
        // None of those stands any more.
        Check.due("not alike with that of side 0", x.propose(0, 2, 8, 817, 52), 0);
        Check.due("not alike with that of the third", x.propose(0, 0, 8, 817, 50), 0);
        Check.due("awarded again", x.propose(0, 1, 8, 817, 52), 1);
        Check.due("its share", x.told(0, 4), 52);
    }

    private static void promise19() {
        PartyWalls x = withSurveyors("rest 6;appeal 3;");
        x.wait(4);
        Check.due("dispute", x.appeal(0), -1);
        x.propose(0, 0, 400, 817, 50);
        x.propose(0, 1, 400, 817, 50);
        Check.due("last day", x.told(0, 6), 8);
        x.wait(4);
        Check.due("on the last day", x.appeal(0), 1);
        Check.due("dispute", x.state(0), 4);
        Check.due("from that day", x.told(0, 1), 8);
        Check.due("the same surveyor", x.surveys(0, 0), 0);
        Check.due("the same third", x.surveys(0, 2), 2);
        Check.due("no second one", x.appeal(0), -1);
        x.propose(0, 0, 400, 817, 50);
        x.propose(0, 1, 400, 817, 50);
        Check.due("last day", x.told(0, 6), 11);
        x.wait(4);
        Check.due("too late", x.appeal(0), -2);
        Check.due("the last day is told still", x.told(0, 6), 11);
        Check.dueThrows("no work", Check.INDEX, () -> x.appeal(1));
        x.begin(0);
        Check.due("void", x.appeal(0), -1);
        Check.due("void keeps its share", x.told(0, 4), 50);
        Check.due("void has no day for an appeal", x.told(0, 6), -1);
    }

    private static void promise19Begun() {
        PartyWalls x = withSurveyors("appeal 3;");
        x.propose(0, 1, 0, 817, 50);
        x.propose(0, 2, 0, 817, 50);
        Check.due("begun", x.begin(0), 1);
        Check.due("day of begin", x.told(0, 7), 0);
        Check.due("begun may be appealed", x.told(0, 6), 3);
        x.enter(0, 8);
        x.wait(1);
        Check.due("appealed", x.appeal(0), 1);
        Check.due("not begun", x.told(0, 7), -1);
        Check.due("not allowed", x.told(0, 0), -1);
        Check.due("dispute", x.state(0), 4);
        Check.due("no entry", x.enter(0, 8), -1);
        Check.due("entries stay", x.entries(0, 0), 1);
        x.propose(0, 1, 1, 817, 50);
        x.propose(0, 2, 1, 817, 50);
        Check.due("begun again", x.begin(0), 1);
        Check.due("day of begin", x.told(0, 7), 1);
        x.done(0);
        Check.due("done", x.appeal(0), -1);
        Check.due("done has no day for an appeal", x.told(0, 6), -1);
        PartyWalls y = Check.withWall(2, "reply 0;");
        y.work(0, 0, 0, 0, 0, 0);
        y.notice(0);
        y.answer(0, true);
        Check.due("allowed, not awarded", y.appeal(0), -1);
    }

    private static void promise20() {
        PartyWalls x = Check.withWall(2, "raise 5;cut 5 if depth>0;reply 3;");
        for (int i = 0; i < 5; i++) {
            x.work(0, 0, i == 1 ? 1 : 0, 0, 0, 0);
        }
        Check.due("planned", x.begin(0), 0);
        Check.due("void", x.state(0), 6);
        Check.due("void again", x.begin(0), -1);
        Check.due("free", x.begin(1), 1);
        Check.due("begun", x.state(1), 5);
        Check.due("begun again", x.begin(1), -1);
        x.done(1);
        Check.due("done", x.begin(1), -1);
        Check.due("done still", x.state(1), 7);
        x.notice(2);
        Check.due("asked", x.begin(2), 0);
        x.notice(3);
        x.notice(4);
        x.answer(3, true);
        x.answer(4, true);
        x.wait(4);
        Check.due("a day ahead", x.begin(3), 0);
        x.wait(1);
        Check.due("on its day", x.begin(4), 1);
        int disputed = dispute(x, 0);
        Check.due("in dispute", x.begin(disputed), 0);
        Check.dueThrows("no work", Check.INDEX, () -> x.begin(6));
        Check.dueThrows("work -1", Check.INDEX, () -> x.begin(-1));
    }

    private static void promise21() {
        PartyWalls x = Check.withWall(2, "raise 5 if depth>0;");
        x.work(0, 0, 0, 0, 0, 0);
        x.work(0, 0, 0, 1, 0, 0);
        Check.due("free", x.done(0), -1);
        x.begin(0);
        x.begin(1);
        Check.due("void", x.done(1), -1);
        Check.due("begun", x.done(0), 1);
        Check.due("done", x.state(0), 7);
        Check.due("done again", x.done(0), -1);
        Check.dueThrows("no work", Check.INDEX, () -> x.done(2));
    }

    private static void promise22() {
        PartyWalls x = Check.withWall(4, "raise 0 if depth>0;rest 1;hours 9-16;");
        x.work(0, 1, 0, 0, 0, 0);
        Check.due("not begun", x.enter(0, 9), -1);
        Check.dueThrows("hour 24", Check.ARGUMENT, () -> x.enter(0, 24));
        Check.dueThrows("hour -1", Check.ARGUMENT, () -> x.enter(0, -1));
        Check.dueThrows("no work", Check.INDEX, () -> x.enter(1, 24));
        x.begin(0);
        Check.due("ahead", x.enter(0, 8), 0);
        Check.due("first hour", x.enter(0, 9), 1);
        Check.due("last hour", x.enter(0, 15), 1);
        Check.due("the second one", x.enter(0, 16), 0);
        Check.due("midnight", x.enter(0, 0), 0);
        Check.due("the last of a day", x.enter(0, 23), 0);
        x.sell(0, 0, 2);
        x.sell(0, 1, 3);
        Check.rule(x, "hours 0-24;");
        x.wait(1);
        Check.due("a day of rest, by its rule", x.enter(0, 9), 0);
        int[] want = {3, 2, 10, 1};
        for (int what = 0; what < 4; what++) {
            Check.due("the last payment, " + what, x.payment(4, what), want[what]);
        }
        Check.due("the first from", x.payment(0, 0), 1);
        Check.due("the first to", x.payment(0, 1), 0);
        Check.due("payments", x.count(9), 5);
        PartyWalls y = withSurveyors("rest 1;");
        y.propose(0, 1, 0, 2324, 50);
        y.propose(0, 2, 0, 2324, 50);
        y.begin(0);
        Check.due("by the awarded hours", y.enter(0, 23), 1);
        Check.due("not by the rule's", y.enter(0, 10), 0);
        y.wait(1);
        Check.due("rest by its rule", y.enter(0, 23), 0);
        y.done(0);
        Check.due("done", y.enter(0, 23), -1);
    }

    private static void promise22Full() {
        PartyWalls x = Check.withWall(2, "raise 0 if depth>0;");
        x.work(0, 0, 0, 0, 0, 0);
        x.begin(0);
        for (int i = 0; i < 300; i++) {
            Check.due("broken", x.enter(0, 3), 0);
        }
        Check.due("the book is full", x.enter(0, 3), -2);
        Check.due("nothing comes of it", x.entries(0, 1), 300);
        Check.due("nothing is written", x.count(9), 300);
        Check.due("kept still", x.enter(0, 8), 1);
    }

    private static void promise23() {
        PartyWalls x = Check.withWall(2, "raise 0 if depth>0;");
        x.work(0, 0, 0, 0, 0, 0);
        Check.due("none", x.entries(0, 0), 0);
        x.begin(0);
        x.enter(0, 8);
        x.enter(0, 9);
        x.enter(0, 20);
        Check.due("kept", x.entries(0, 0), 2);
        Check.due("broken", x.entries(0, 1), 1);
        Check.dueThrows("what 2", Check.ARGUMENT, () -> x.entries(0, 2));
        Check.dueThrows("what -1", Check.ARGUMENT, () -> x.entries(0, -1));
        Check.dueThrows("no work", Check.INDEX, () -> x.entries(1, 2));
    }
}
