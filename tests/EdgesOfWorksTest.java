/** Each sentence on WORKS, SURVEYORS and ENTRIES (promises 10 to 23) that names an edge. */
public final class EdgesOfWorksTest {
    private static final String TEXT = "raise 10 if depth>0;post 2;rest 6;reply 3;appoint 2;appeal 3;hours 9-16;";
    private static final int PLANNED = 0;
    private static final int FREE = 1;
    private static final int ASKED = 2;
    private static final int ALLOWED = 3;
    private static final int DISPUTE = 4;
    private static final int BEGUN = 5;
    private static final int VOID = 6;
    private static final int DONE = 7;

    public static void main(String[] args) {
        work();
        statesAheadOfBegin();
        statesBySilence();
        statesOfBegin();
        noSuchWork();
        notice();
        answer();
        toldDays();
        toldOfAward();
        surveyor();
        appoint();
        appointFirstOfThese();
        barred();
        surveys();
        third();
        propose();
        award();
        appeal();
        appealed();
        beginAndDone();
        enter();
        entries();
        Check.end();
    }

    /** An object whose WORK 0, to raise WALL 0, of SIDE 0, is such; a DISPUTE is from DAY 2 on. */
    private static PartyWalls inState(int state) {
        PartyWalls x = Check.withWall(4, TEXT);
        boolean needsNotice = state != FREE && state != BEGUN && state != DONE;
        x.work(0, 0, 0, needsNotice ? 1 : 0, 0, 0);
        if (state == ASKED || state == ALLOWED || state == DISPUTE) {
            x.notice(0);
        }
        if (state == ALLOWED || state == DISPUTE) {
            x.wait(2);
            x.answer(0, state == ALLOWED);
        }
        if (state >= BEGUN) {
            x.begin(0);
        }
        if (state == DONE) {
            x.done(0);
        }
        Check.due("set up", x.state(0), state);
        return x;
    }

    /** A DISPUTE on DAY 2, with SURVEYORS 0, 1 and the THIRD 2. */
    private static PartyWalls withThree() {
        PartyWalls x = inState(DISPUTE);
        for (int i = 0; i < 3; i++) {
            x.surveyor(0);
        }
        x.appoint(0, 0, 0, 0);
        x.appoint(0, 1, 1, 1);
        return x;
    }

    /** AWARDED on DAY 2 from a DAY on, hours 10-15, SHARE 40; to be appealed up to DAY 5. */
    private static PartyWalls awarded(int from) {
        PartyWalls x = withThree();
        x.propose(0, 0, from, 1_015, 40);
        x.propose(0, 1, from, 1_015, 40);
        Check.due("set up", x.state(0), ALLOWED);
        return x;
    }

    private static void dueTold(String when, PartyWalls x, int... want) {
        for (int what = 0; what < want.length; what++) {
            Check.due(when + ", told " + what, x.told(0, what), want[what]);
        }
    }

    private static void dueSame(String call, PartyWalls x, int state, int... told) {
        Check.due(call + " leaves the state", x.state(0), state);
        dueTold(call, x, told);
    }

    private static void work() {
        Check.sentence("Terms 2: WORKS, numbered from 0 on, 30 at most", () -> {
            PartyWalls x = Check.withWall(2, "");
            for (int i = 0; i < 30; i++) {
                Check.due("work", x.work(0, i % 2, i % 4, 0, 0, 0), i);
            }
        });
        Check.sentence("Promise 10: IndexOutOfBoundsException: no such WALL;", () -> {
            Check.dueNumbers("wall", 1, wall -> Check.withWall(2, "").work(wall, 0, 0, 0, 0, 0));
            Check.dueThrows("no walls", Check.INDEX, () -> new PartyWalls().work(0, 0, 0, 0, 0, 0));
            Check.dueThrows("and no side", Check.INDEX, () -> Check.withWall(2, "").work(1, 2, 4, -1, -1, -1));
        });
        Check.sentence("Promise 10: IllegalArgumentException: also the SORT,", () ->
                Check.dueRange("sort", 0, 3, sort -> Check.withWall(2, "").work(0, 0, sort, 0, 0, 0)));
        Check.sentence("Terms 2: with depth, close and height (0 to 9,999 each)", () -> {
            Check.dueRange("depth", 0, 9_999, depth -> Check.withWall(2, "").work(0, 0, 0, depth, 0, 0));
            Check.dueRange("close", 0, 9_999, close -> Check.withWall(2, "").work(0, 0, 0, 0, close, 0));
            Check.dueRange("height", 0, 9_999, height -> Check.withWall(2, "").work(0, 0, 0, 0, 0, height));
            PartyWalls x = Check.withWall(2, "");
            Check.dueThrows("refused", Check.ARGUMENT, () -> x.work(0, 0, 0, 0, 0, 10_000));
            Check.due("works", x.count(2), 0);
        });
        Check.sentence("Promise 10: IllegalStateException: there are 30,", () -> {
            PartyWalls x = Check.withWall(2, "");
            for (int i = 0; i < 30; i++) {
                x.work(0, 0, 0, 0, 0, 0);
            }
            Check.dueThrows("31st", Check.STATE, () -> x.work(0, 0, 0, 0, 0, 0));
            Check.dueThrows("31st, no wall", Check.INDEX, () -> x.work(1, 0, 0, 0, 0, 0));
            Check.dueThrows("31st, no side", Check.ARGUMENT, () -> x.work(0, 2, 0, 0, 0, 0));
            Check.due("works", x.count(2), 30);
            Check.due("the 30th", x.state(29), PLANNED);
        });
        Check.sentence("Promise 10: or all DAYS of the week are of rest.", () -> {
            PartyWalls x = Check.withWall(2, "rest 0 1 2 3 4 5 6;");
            Check.dueThrows("all rest", Check.STATE, () -> x.work(0, 0, 0, 0, 0, 0));
            Check.dueThrows("all rest, no sort", Check.ARGUMENT, () -> x.work(0, 0, 4, 0, 0, 0));
            Check.dueThrows("all rest, no wall", Check.INDEX, () -> x.work(1, 0, 0, 0, 0, 0));
            Check.due("works", x.count(2), 0);
            Check.rule(x, "rest 0 1 2 3 4 5;");
            Check.due("one is not", x.work(0, 0, 0, 0, 0, 0), 0);
        });
        Check.sentence("Terms 2: by the RULE that there is when it is told, to its end", () -> {
            PartyWalls x = Check.withWall(2, "raise 9;post 3;rest 5;reply 2;appoint 1;appeal 1;hours 2-3;");
            x.work(0, 0, 0, 0, 0, 0);
            Check.rule(x, "raise 1 if depth>5;rest 0 1 2 3 4 5 6;post 9;reply 8;silence consent;appoint 9;appeal 9;"
                    + "hours 4-5;");
            Check.due("needs notice", x.state(0), PLANNED);
            Check.due("post", x.notice(0), 3);
            dueTold("hours and reply", x, -1, -1, 2, 3, 100, 6, -1, -1);
            x.wait(7);
            Check.due("silence", x.state(0), DISPUTE);
            x.wait(2);
            x.surveyor(0);
            x.surveyor(0);
            Check.due("appoint", x.appoint(0, 1, 0, 0), 1);
            x.appoint(0, 0, 1, 0);
            x.propose(0, 0, 9, 203, 0);
            x.propose(0, 1, 9, 203, 0);
            Check.due("appeal", x.told(0, 6), 10);
            x.begin(0);
            Check.due("rest", x.enter(0, 2), 1);
            x.wait(3);
            Check.due("rest on its own", x.enter(0, 2), 0);
        });
    }

    private static void statesAheadOfBegin() {
        Check.sentence("Terms 2: 0 PLANNED: it needs notice, and none was given.", () -> {
            PartyWalls x = inState(PLANNED);
            x.wait(10_000);
            Check.due("later", x.state(0), PLANNED);
        });
        Check.sentence("Terms 2: 1 FREE: it needs none.", () -> {
            PartyWalls x = inState(FREE);
            x.wait(10_000);
            Check.due("later", x.state(0), FREE);
        });
        Check.sentence("Terms 2: it ARRIVES post days (all counted) behind it", () -> {
            PartyWalls x = Check.withWall(2, "post 9;rest 0 1 2 3 4 5;");
            x.work(0, 0, 0, 0, 0, 0);
            x.wait(3);
            Check.due("over days of rest", x.notice(0), 12);
            PartyWalls y = Check.withWall(2, "post 0;");
            y.work(0, 0, 0, 0, 0, 0);
            Check.due("post 0", y.notice(0), 0);
            Check.due("answered at once", y.answer(0, true), 1);
        });
        Check.sentence("Terms 2: no answer, and today is not behind what is reply COUNTED behind that.", () -> {
            PartyWalls x = inState(ASKED);
            Check.due("counted from arrival", x.told(0, 5), 5);
            x.wait(5);
            Check.due("on the last day", x.state(0), ASKED);
            x.wait(1);
            Check.due("behind it", x.state(0), DISPUTE);
            PartyWalls y = Check.withWall(2, "post 5;rest 6;reply 1;");
            y.work(0, 0, 0, 0, 0, 0);
            y.notice(0);
            Check.due("over a day of rest", y.told(0, 5), 7);
            PartyWalls z = Check.withWall(2, "post 6;rest 6;reply 0;");
            z.work(0, 0, 0, 0, 0, 0);
            z.notice(0);
            Check.due("reply 0, of rest", z.told(0, 5), 6);
            z.wait(6);
            Check.due("on that day", z.state(0), ASKED);
            z.wait(1);
            Check.due("behind it", z.state(0), DISPUTE);
        });
        Check.sentence("Terms 2: from its days of notice (all counted) behind the DAY of ARRIVAL on", () -> {
            PartyWalls x = inState(ASKED);
            x.wait(5);
            x.answer(0, true);
            Check.due("not from the answer", x.told(0, 0), 12);
            PartyWalls y = Check.withWall(2, "dig 0;rest 0 1 2 3 4 5;post 4;");
            y.work(0, 0, 2, 0, 0, 0);
            y.work(0, 0, 0, 0, 0, 0);
            y.notice(0);
            y.notice(1);
            y.wait(4);
            y.answer(0, true);
            y.answer(1, true);
            Check.due("0 days", y.told(0, 0), 4);
            Check.due("all counted", y.told(1, 0), 34);
            Check.due("begun so", y.begin(0), 1);
        });
        Check.sentence("Terms 2: (it is 3 ahead of that DAY, too)", () -> {
            PartyWalls x = inState(ALLOWED);
            x.wait(9);
            Check.due("a day ahead", x.state(0), ALLOWED);
            x.wait(1);
            Check.due("on that day", x.state(0), ALLOWED);
            x.wait(10_000);
            Check.due("long behind it", x.state(0), ALLOWED);
        });
    }

    private static void statesBySilence() {
        Check.sentence("Terms 2: by silence consent (from when it is no longer ASKED)", () -> {
            PartyWalls x = Check.withWall(2, "raise 3;silence consent;post 1;reply 2;");
            x.work(0, 0, 0, 0, 0, 0);
            x.notice(0);
            x.wait(3);
            dueSame("last day", x, ASKED, -1, -1, 8, 17, 100, 3, -1, -1);
            x.wait(1);
            dueSame("first day behind it", x, ALLOWED, 4, -1, 8, 17, 100, -1, -1, -1);
            Check.due("no answer any more", x.answer(0, false), -1);
            Check.due("it may begin", x.begin(0), 1);
            PartyWalls late = Check.withWall(2, "raise 3;silence consent;post 1;reply 2;");
            late.work(0, 0, 0, 0, 0, 0);
            late.notice(0);
            late.wait(500);
            Check.due("looked at late", late.told(0, 0), 4);
        });
        Check.sentence("Terms 2: or by silence dispute (from the first DAY on which it is not ASKED)", () -> {
            PartyWalls x = inState(ASKED);
            x.wait(500);
            dueSame("looked at late", x, DISPUTE, -1, 6, 9, 16, 100, -1, -1, -1);
            Check.due("no answer any more", x.answer(0, true), -1);
            PartyWalls y = inState(ASKED);
            y.wait(6);
            dueSame("on the first day", y, DISPUTE, -1, 6, 9, 16, 100, -1, -1, -1);
            Check.due("begun in dispute", y.begin(0), 0);
        });
        Check.sentence("Terms 2: 4 DISPUTE: dissent was answered (then from that DAY on)", () -> {
            PartyWalls x = inState(ASKED);
            x.wait(4);
            x.answer(0, false);
            x.wait(3);
            dueSame("later", x, DISPUTE, -1, 4, 9, 16, 100, -1, -1, -1);
        });
    }

    private static void statesOfBegin() {
        Check.sentence("Terms 2: 6 VOID: begun PLANNED, ASKED, in DISPUTE, or ahead of the DAY", () -> {
            for (int state : new int[] {PLANNED, ASKED, ALLOWED, DISPUTE}) {
                PartyWalls x = inState(state);
                Check.due("begin of " + state, x.begin(0), 0);
                Check.due("state of " + state, x.state(0), VOID);
            }
            PartyWalls x = inState(ALLOWED);
            x.wait(9);
            Check.due("a day ahead", x.begin(0), 0);
            PartyWalls y = awarded(4);
            y.wait(1);
            Check.due("a day ahead of an award's", y.begin(0), 0);
            Check.due("state", y.state(0), VOID);
        });
        Check.sentence("Promise 20: It is begun: 1;", () -> {
            PartyWalls x = inState(ALLOWED);
            x.wait(10);
            Check.due("on its day", x.begin(0), 1);
            Check.due("state", x.state(0), BEGUN);
            PartyWalls y = awarded(4);
            y.wait(2);
            Check.due("on an award's day", y.begin(0), 1);
            PartyWalls z = awarded(2);
            Check.due("on the very day of the award", z.begin(0), 1);
            PartyWalls late = inState(ALLOWED);
            late.wait(10_000);
            Check.due("long behind it", late.begin(0), 1);
            PartyWalls free = inState(FREE);
            Check.due("free", free.begin(0), 1);
        });
        Check.sentence("Terms 2: or awarded: from the DAY told", () -> {
            Check.due("later", awarded(400).told(0, 0), 400);
            Check.due("today", awarded(2).told(0, 0), 2);
            Check.due("far", awarded(Integer.MAX_VALUE).told(0, 0), Integer.MAX_VALUE);
        });
    }

    private static void noSuchWork() {
        Check.sentence("Promise 11: IndexOutOfBoundsException: no such WORK (so below).", () -> {
            Check.dueThrows("no works", Check.INDEX, () -> new PartyWalls().state(0));
            Check.dueNumbers("state", 1, w -> inState(BEGUN).state(w));
            Check.dueNumbers("notice", 1, w -> inState(PLANNED).notice(w));
            Check.dueNumbers("answer", 1, w -> inState(ASKED).answer(w, true));
            Check.dueNumbers("told", 1, w -> inState(BEGUN).told(w, 0));
            Check.dueNumbers("appoint", 1, w -> withThree().appoint(w, 0, 0, 0));
            Check.dueNumbers("surveys", 1, w -> withThree().surveys(w, 0));
            Check.dueNumbers("propose", 1, w -> withThree().propose(w, 0, 2, 817, 0));
            Check.dueNumbers("appeal", 1, w -> awarded(2).appeal(w));
            Check.dueNumbers("begin", 1, w -> inState(FREE).begin(w));
            Check.dueNumbers("done", 1, w -> inState(BEGUN).done(w));
            Check.dueNumbers("enter", 1, w -> inState(BEGUN).enter(w, 9));
            Check.dueNumbers("entries", 1, w -> inState(BEGUN).entries(w, 0));
            Check.dueNumbers("build", 1, w -> inState(BEGUN).build(w, 0, 0, 1, 1));
            Check.dueNumbers("spend", 1, w -> inState(BEGUN).spend(w, 1));
            Check.dueNumbers("secure", 1, w -> inState(BEGUN).secure(w, 1));
            Check.dueNumbers("settle", 1, w -> inState(DONE).settle(w, 1));
        });
    }

    private static void notice() {
        Check.sentence("Promise 12: -1: it is not PLANNED.", () -> {
            for (int state = FREE; state <= DONE; state++) {
                PartyWalls x = inState(state);
                Check.due("notice of " + state, x.notice(0), -1);
                Check.due("state of " + state, x.state(0), state);
            }
            PartyWalls x = inState(ASKED);
            x.wait(1);
            x.notice(0);
            Check.due("the first notice stays", x.told(0, 5), 5);
        });
    }

    private static void answer() {
        Check.sentence("Promise 13: -1: it is not ASKED;", () -> {
            for (int state = 0; state <= DONE; state++) {
                if (state != ASKED) {
                    PartyWalls x = inState(state);
                    Check.due("consent of " + state, x.answer(0, true), -1);
                    Check.due("dissent of " + state, x.answer(0, false), -1);
                    Check.due("state of " + state, x.state(0), state);
                }
            }
            PartyWalls x = inState(ASKED);
            x.wait(6);
            Check.due("a day too late", x.answer(0, true), -1);
        });
        Check.sentence("Promise 13: -2: it hasn't ARRIVED", () -> {
            PartyWalls x = inState(ASKED);
            Check.due("on the day of notice", x.answer(0, true), -2);
            x.wait(1);
            Check.due("a day ahead", x.answer(0, false), -2);
            Check.due("nothing comes of it", x.state(0), ASKED);
            x.wait(1);
            Check.due("on that day", x.answer(0, true), 1);
            PartyWalls y = inState(ASKED);
            y.wait(5);
            Check.due("on the last day", y.answer(0, false), 1);
        });
        Check.sentence("Promise 13: (the first of these)", () -> {
            PartyWalls x = inState(ASKED);
            x.begin(0);
            Check.due("void ahead of arrival", x.answer(0, true), -1);
            Check.due("planned", inState(PLANNED).answer(0, true), -1);
        });
    }

    private static void toldDays() {
        Check.sentence("Promise 14: IllegalArgumentException: another what.", () -> {
            for (int state = 0; state <= DONE; state++) {
                PartyWalls x = inState(state);
                Check.dueRange("what of " + state, 0, 7, what -> x.told(0, what));
            }
        });
        Check.sentence("Promise 14: 0 (NONE: it is, or was begun, by none of what is told for 3)", () -> {
            for (int state : new int[] {PLANNED, FREE, ASKED, DISPUTE, BEGUN, VOID, DONE}) {
                Check.due("of " + state, inState(state).told(0, 0), -1);
            }
            for (int state : new int[] {ASKED, DISPUTE}) {
                PartyWalls x = inState(state);
                x.begin(0);
                Check.due("void of " + state, x.told(0, 0), -1);
            }
            PartyWalls early = inState(ALLOWED);
            early.begin(0);
            Check.due("void, allowed later", early.told(0, 0), 12);
            PartyWalls x = inState(ALLOWED);
            x.wait(10);
            x.begin(0);
            Check.due("begun", x.told(0, 0), 12);
            x.done(0);
            Check.due("done", x.told(0, 0), 12);
        });
        Check.sentence("Promise 14: 1 from which it is a DISPUTE (NONE: it is none)", () -> {
            for (int state = 0; state <= DONE; state++) {
                Check.due("of " + state, inState(state).told(0, 1), state == DISPUTE ? 2 : -1);
            }
            PartyWalls x = inState(DISPUTE);
            x.begin(0);
            Check.due("void", x.told(0, 1), -1);
            Check.due("awarded", awarded(4).told(0, 1), -1);
        });
        Check.sentence("Promise 14: 5 the last DAY for an answer (NONE: it isn't ASKED)", () -> {
            for (int state = 0; state <= DONE; state++) {
                Check.due("of " + state, inState(state).told(0, 5), state == ASKED ? 5 : -1);
            }
            PartyWalls x = inState(ASKED);
            x.wait(5);
            Check.due("on it", x.told(0, 5), 5);
            x.wait(1);
            Check.due("behind it", x.told(0, 5), -1);
            PartyWalls y = inState(ASKED);
            y.begin(0);
            Check.due("void", y.told(0, 5), -1);
        });
        Check.sentence("Promise 14: 7 the DAY of begin (NONE: not begun, or not any more)", () -> {
            for (int state = 0; state <= DONE; state++) {
                PartyWalls x = inState(state);
                x.wait(3);
                Check.due("of " + state, x.told(0, 7), state >= BEGUN ? 0 : -1);
            }
            PartyWalls x = awarded(2);
            x.wait(1);
            x.begin(0);
            Check.due("begun", x.told(0, 7), 3);
            x.appeal(0);
            Check.due("not any more", x.told(0, 7), -1);
            x.wait(1);
            x.begin(0);
            Check.due("void", x.told(0, 7), 4);
        });
    }

    private static void toldOfAward() {
        Check.sentence("Promise 14: 6 (NONE: it isn't AWARDED, or neither ALLOWED nor BEGUN)", () -> {
            for (int state = 0; state <= DONE; state++) {
                Check.due("not awarded, of " + state, inState(state).told(0, 6), -1);
            }
            PartyWalls x = awarded(4);
            Check.due("allowed", x.told(0, 6), 5);
            x.wait(2);
            x.begin(0);
            Check.due("begun", x.told(0, 6), 5);
            x.wait(30);
            Check.due("when the days are over", x.told(0, 6), 5);
            x.done(0);
            Check.due("done", x.told(0, 6), -1);
            PartyWalls early = awarded(4);
            early.begin(0);
            Check.due("void", early.told(0, 6), -1);
            PartyWalls again = awarded(4);
            again.appeal(0);
            Check.due("appealed", again.told(0, 6), -1);
        });
        Check.sentence("Terms 2: A WORK that is not AWARDED has the RULE's hours, and SHARE 100.", () -> {
            for (int state = 0; state <= DONE; state++) {
                PartyWalls x = inState(state);
                Check.due("of " + state, 1_000_000 * x.told(0, 2) + 1_000 * x.told(0, 3) + x.told(0, 4), 9_016_100);
            }
            dueTold("awarded", awarded(4), 4, -1, 10, 15, 40, -1, 5, -1);
            PartyWalls early = awarded(4);
            early.begin(0);
            dueTold("awarded, void", early, 4, -1, 10, 15, 40, -1, -1, 2);
            PartyWalls x = awarded(2);
            x.begin(0);
            dueTold("awarded, begun", x, 2, -1, 10, 15, 40, -1, 5, 2);
            x.done(0);
            dueTold("awarded, done", x, 2, -1, 10, 15, 40, -1, -1, 2);
            PartyWalls again = awarded(2);
            again.appeal(0);
            dueTold("not any more", again, -1, 2, 9, 16, 100, -1, -1, -1);
        });
    }

    private static void surveyor() {
        Check.sentence("Promise 15: IllegalArgumentException: bits that tell no OWNER;", () -> {
            Check.dueRange("kin of no owners", 0, 0, kin -> new PartyWalls().surveyor(kin));
            Check.dueRange("kin of 4", 0, 15, kin -> inState(FREE).surveyor(kin));
            Check.dueRange("kin of 20", 0, (1 << 20) - 1, kin -> Check.withWall(20, "").surveyor(kin));
            PartyWalls x = Check.withWall(2, "");
            Check.dueThrows("one of three", Check.ARGUMENT, () -> x.surveyor(4 + 1));
            Check.dueThrows("the highest bit", Check.ARGUMENT, () -> x.surveyor(Integer.MIN_VALUE + 1));
            Check.due("surveyors", x.count(8), 0);
            x.owner();
            Check.due("now there is one", x.surveyor(4 + 1), 0);
        });
        Check.sentence("Terms 2: SURVEYORS, numbered from 0 on, 12 at most, each KIN to OWNERS or not", () -> {
            PartyWalls x = Check.withWall(4, "");
            for (int i = 0; i < 12; i++) {
                Check.due("surveyor", x.surveyor(i), i);
            }
        });
        Check.sentence("Promise 15: IllegalStateException: there are 12.", () -> {
            PartyWalls x = inState(DISPUTE);
            for (int i = 0; i < 12; i++) {
                x.surveyor(0);
            }
            Check.dueThrows("13th", Check.STATE, () -> x.surveyor(0));
            Check.dueThrows("13th of none", Check.ARGUMENT, () -> x.surveyor(16));
            Check.due("surveyors", x.count(8), 12);
            Check.due("the 12th", x.appoint(0, 0, 11, 0), 1);
        });
    }

    private static void appoint() {
        Check.sentence("Promise 16: IndexOutOfBoundsException: also no such SURVEYOR;", () -> {
            Check.dueThrows("no surveyors", Check.INDEX, () -> inState(DISPUTE).appoint(0, 0, 0, 0));
            Check.dueNumbers("surveyor", 3, s -> withThree().appoint(0, 0, s, 0));
            Check.dueThrows("and no sides", Check.INDEX, () -> withThree().appoint(0, 2, 3, 2));
            Check.dueThrows("in no dispute", Check.INDEX, () -> inState(FREE).appoint(0, 0, 0, 0));
        });
        Check.sentence("Promise 16: IllegalArgumentException: no such SIDES.", () -> {
            Check.dueRange("side", 0, 1, side -> withThree().appoint(0, side, 2, 0));
            Check.dueRange("by", 0, 1, by -> withThree().appoint(0, 0, 2, by));
            PartyWalls x = inState(FREE);
            x.surveyor(0);
            Check.dueThrows("side, in no dispute", Check.ARGUMENT, () -> x.appoint(0, 2, 0, 0));
            Check.dueThrows("by, in no dispute", Check.ARGUMENT, () -> x.appoint(0, 0, 0, -1));
        });
        Check.sentence("Promise 16: -1 it is no DISPUTE;", () -> {
            for (int state = 0; state <= DONE; state++) {
                PartyWalls x = inState(state);
                x.surveyor(0);
                Check.due("of " + state, x.appoint(0, 0, 0, 0), state == DISPUTE ? 1 : -1);
                Check.due("who is it, of " + state, x.surveys(0, 0), state == DISPUTE ? 0 : -1);
            }
            Check.due("awarded", awarded(4).appoint(0, 0, 2, 0), -1);
        });
        Check.sentence("Promise 16: -2 that SIDE has one;", () -> {
            PartyWalls x = withThree();
            Check.due("another", x.appoint(0, 0, 2, 0), -2);
            Check.due("the same", x.appoint(0, 0, 0, 0), -2);
            Check.due("by the other", x.appoint(0, 1, 2, 0), -2);
            Check.due("side 0", x.surveys(0, 0), 0);
            Check.due("side 1", x.surveys(0, 1), 1);
        });
        Check.sentence("Terms 2: behind appoint days (COUNTED, behind the DAY from which it is a DISPUTE)", () -> {
            // From DAY 2 on, two days behind it: 4.
            PartyWalls x = inState(DISPUTE);
            x.surveyor(0);
            Check.due("-3: at once", x.appoint(0, 1, 0, 0), -3);
            x.wait(2);
            Check.due("-3: on the last of them", x.appoint(0, 1, 0, 0), -3);
            x.wait(1);
            Check.due("behind them", x.appoint(0, 1, 0, 0), 1);
            // From DAY 5 on, a DAY of rest between: 8.
            PartyWalls y = inState(ASKED);
            y.surveyor(0);
            y.wait(5);
            y.answer(0, false);
            y.wait(3);
            Check.due("-3: over a day of rest", y.appoint(0, 0, 0, 1), -3);
            y.wait(1);
            Check.due("behind it", y.appoint(0, 0, 0, 1), 1);
            PartyWalls z = Check.withWall(2, "appoint 0;");
            z.surveyor(0);
            z.work(0, 0, 0, 0, 0, 0);
            z.notice(0);
            z.answer(0, false);
            Check.due("-3: of 0 days, on the day itself", z.appoint(0, 0, 0, 1), -3);
            z.wait(1);
            Check.due("behind it", z.appoint(0, 0, 0, 1), 1);
        });
        Check.sentence("Promise 16: -3 it is by the other SIDE, and too early;", () -> {
            PartyWalls x = inState(DISPUTE);
            x.surveyor(0);
            Check.due("by the other", x.appoint(0, 0, 0, 1), -3);
            Check.due("none is appointed", x.surveys(0, 0), -1);
            Check.due("by itself", x.appoint(0, 0, 0, 0), 1);
            PartyWalls again = awarded(2);
            again.surveyor(0);
            again.wait(3);
            again.appeal(0);
            Check.due("they stay by an appeal", again.appoint(0, 0, 3, 1), -2);
        });
        Check.sentence("Promise 16: -5 it is the other SIDE's.", () -> {
            PartyWalls x = inState(DISPUTE);
            x.surveyor(0);
            x.appoint(0, 1, 0, 1);
            Check.due("of side 1", x.appoint(0, 0, 0, 0), -5);
            Check.due("none is appointed", x.surveys(0, 0), -1);
            PartyWalls y = inState(DISPUTE);
            y.surveyor(0);
            y.appoint(0, 0, 0, 0);
            Check.due("of side 0", y.appoint(0, 1, 0, 1), -5);
            int other = y.work(0, 0, 0, 1, 0, 0);
            y.notice(other);
            y.wait(2);
            y.answer(other, false);
            Check.due("of another work's", y.appoint(other, 1, 0, 1), 1);
        });
    }

    private static void appointFirstOfThese() {
        Check.sentence("Promise 16: or, the first of these", () -> {
            PartyWalls x = inState(DISPUTE);
            x.surveyor(0);
            x.surveyor(3);
            x.surveyor(8);
            x.appoint(0, 0, 2, 0);
            Check.due("-2 ahead of -3", x.appoint(0, 0, 0, 1), -2);
            Check.due("-2 ahead of -4", x.appoint(0, 0, 1, 0), -2);
            Check.due("-2 ahead of -3 and -4", x.appoint(0, 0, 1, 1), -2);
            Check.due("-3 ahead of -4", x.appoint(0, 1, 1, 0), -3);
            Check.due("-3 ahead of -5", x.appoint(0, 1, 2, 0), -3);
            x.sell(0, 1, 3);
            Check.due("-4 ahead of -5", x.appoint(0, 1, 2, 1), -4);
            Check.due("-3 ahead of -4 and -5", x.appoint(0, 1, 2, 0), -3);
            x.begin(0);
            Check.due("-1 ahead of -2", x.appoint(0, 0, 0, 0), -1);
            Check.due("-1 ahead of -3", x.appoint(0, 1, 0, 0), -1);
            Check.due("-1 ahead of -4", x.appoint(0, 1, 1, 1), -1);
            Check.due("-1 ahead of -5", x.appoint(0, 1, 2, 1), -1);
        });
    }

    private static void barred() {
        Check.sentence("Terms 2: BARRED from a WORK if KIN to the OWNER of a SIDE of its WALL now", () -> {
            for (int kin = 0; kin < 16; kin++) {
                for (int side = 0; side < 2; side++) {
                    PartyWalls x = inState(DISPUTE);
                    x.surveyor(kin);
                    Check.due("-4, kin " + kin, x.appoint(0, side, 0, side), (kin & 3) == 0 ? 1 : -4);
                    PartyWalls y = inState(DISPUTE);
                    y.surveyor(kin);
                    y.sell(0, 0, 2);
                    Check.due("-4 now, kin " + kin, y.appoint(0, side, 0, side), (kin & 6) == 0 ? 1 : -4);
                    Check.due("who is it", y.surveys(0, side), (kin & 6) == 0 ? 0 : -1);
                }
            }
            PartyWalls x = Check.withWall(20, "");
            x.wall(18, 19);
            x.surveyor(1 << 19);
            x.work(1, 0, 0, 0, 0, 0);
            x.notice(0);
            x.answer(0, false);
            Check.due("kin to the 20th owner", x.appoint(0, 0, 0, 0), -4);
        });
        Check.sentence("Terms 2: (who is appointed already stays)", () -> {
            PartyWalls x = inState(DISPUTE);
            for (int i = 0; i < 3; i++) {
                x.surveyor(4);
            }
            x.appoint(0, 0, 0, 0);
            x.sell(0, 0, 2);
            Check.due("barred now", x.surveys(0, 0), 0);
            Check.due("it proposes", x.propose(0, 0, 2, 817, 0), 0);
            x.sell(0, 0, 0);
            x.appoint(0, 1, 1, 1);
            x.sell(0, 1, 2);
            Check.due("so does the third", x.surveys(0, 2), 2);
            Check.due("it proposes, too", x.propose(0, 2, 2, 817, 0), 1);
        });
    }

    private static void surveys() {
        Check.sentence("Promise 17: IllegalArgumentException: another which.", () -> {
            Check.dueRange("which", 0, 2, which -> withThree().surveys(0, which));
            Check.dueRange("which, planned", 0, 2, which -> inState(PLANNED).surveys(0, which));
        });
        Check.sentence("Promise 17: The SURVEYOR of SIDE 0, 1, or THIRD (2); NONE.", () -> {
            PartyWalls x = inState(DISPUTE);
            for (int i = 0; i < 3; i++) {
                x.surveyor(0);
                Check.due("none yet, " + i, x.surveys(0, i), -1);
            }
            x.appoint(0, 1, 2, 1);
            Check.due("side 0, none", x.surveys(0, 0), -1);
            Check.due("side 1", x.surveys(0, 1), 2);
            Check.due("third, none yet", x.surveys(0, 2), -1);
            x.appoint(0, 0, 1, 0);
            Check.due("side 0", x.surveys(0, 0), 1);
            Check.due("third", x.surveys(0, 2), 0);
        });
    }

    /** A further WORK in DISPUTE, whose SIDES appoint these two; its THIRD. */
    private static int thirdOf(PartyWalls x, int one, int other) {
        int work = x.work(0, 0, 1, 0, 0, 0);
        x.notice(work);
        x.answer(work, false);
        x.appoint(work, 0, one, 0);
        x.appoint(work, 1, other, 1);
        return x.surveys(work, 2);
    }

    private static void third() {
        Check.sentence("Terms 2: THIRD: of the SURVEYORS that are neither", () -> {
            PartyWalls x = Check.withWall(4, "");
            x.surveyor(0);
            x.surveyor(0);
            Check.due("of two there is none", thirdOf(x, 0, 1), -1);
            x.surveyor(0);
            Check.due("neither the first nor the second", thirdOf(x, 0, 1), 2);
            Check.due("neither the first nor the last", thirdOf(x, 0, 2), 1);
            Check.due("neither of the last", thirdOf(x, 2, 1), 0);
        });
        Check.sentence("Terms 2: THIRD: and not BARRED", () -> {
            PartyWalls x = Check.withWall(4, "");
            for (int kin : new int[] {1, 2, 3, 0, 0, 4, 5}) {
                x.surveyor(kin);
            }
            Check.due("the first that is not", thirdOf(x, 3, 4), 5);
            Check.due("the only one that is not", thirdOf(x, 3, 4), 5);
            x.sell(0, 0, 2);
            Check.due("by the owners now", thirdOf(x, 3, 4), 0);
            x.sell(0, 1, 2);
            Check.due("and of side 1", thirdOf(x, 3, 4), 1);
        });
        Check.sentence("Terms 2: the one that is, or was, THIRD of the fewest WORKS, of these the least", () -> {
            PartyWalls x = Check.withWall(4, "");
            for (int i = 0; i < 5; i++) {
                x.surveyor(0);
            }
            Check.due("none was, the least", thirdOf(x, 0, 1), 2);
            Check.due("of fewer", thirdOf(x, 0, 1), 3);
            Check.due("of fewer still", thirdOf(x, 0, 1), 4);
            Check.due("all alike, the least", thirdOf(x, 0, 1), 2);
            x.begin(0);
            x.begin(3);
            Check.due("who was of one that is VOID is counted", thirdOf(x, 0, 1), 3);
            Check.due("who was none is ahead", thirdOf(x, 3, 4), 0);
        });
        Check.sentence("Terms 2: it stays (there may be none)", () -> {
            PartyWalls x = Check.withWall(4, "");
            x.surveyor(0);
            x.surveyor(0);
            x.surveyor(1);
            Check.due("none", thirdOf(x, 0, 1), -1);
            Check.due("it has none to propose", x.propose(0, 2, 0, 817, 0), -2);
            PartyWalls y = withThree();
            y.surveyor(0);
            y.sell(0, 0, 3);
            y.wait(30);
            Check.due("it stays", y.surveys(0, 2), 2);
            y.begin(0);
            Check.due("void", y.surveys(0, 2), 2);
        });
    }

    private static void propose() {
        Check.sentence("Promise 18: IllegalArgumentException: another which,", () -> {
            Check.dueRange("which", 0, 2, which -> withThree().propose(0, which, 2, 817, 0));
            Check.dueThrows("which, planned", Check.ARGUMENT, () -> inState(PLANNED).propose(0, 3, 2, 817, 0));
        });
        Check.sentence("Terms 2: tells a DAY (today or later)", () -> {
            PartyWalls x = withThree();
            for (int day : new int[] {1, 0, -1, Integer.MIN_VALUE}) {
                Check.dueThrows("day " + day, Check.ARGUMENT, () -> x.propose(0, 0, day, 817, 0));
            }
            Check.due("today", x.propose(0, 0, 2, 817, 0), 0);
            Check.due("far", x.propose(0, 0, Integer.MAX_VALUE, 817, 0), 0);
            Check.dueThrows("yesterday, planned", Check.ARGUMENT, () -> inState(PLANNED).propose(0, 0, -1, 817, 0));
        });
        Check.sentence("Terms 2: hours from .. to (0 to 24, from below to)", () -> {
            PartyWalls x = withThree();
            for (int hours : new int[] {1, 24, 2_324, 2_224, 12, 910}) {
                Check.due("hours " + hours, x.propose(0, 0, 2, hours, 0), 0);
            }
            for (int hours : new int[] {0, 25, 99, 101, 125, 909, 908, 1_009, 2_323, 2_325, 2_424, 2_425, 2_526, 10_000,
                -1, -99, -100, -817, Integer.MIN_VALUE, Integer.MAX_VALUE}) {
                Check.dueThrows("hours " + hours, Check.ARGUMENT, () -> x.propose(0, 0, 2, hours, 0));
            }
            Check.dueThrows("hours, planned", Check.ARGUMENT, () -> inState(PLANNED).propose(0, 0, 2, 808, 0));
        });
        Check.sentence("Terms 2: and a SHARE (0 to 100 hundredths", () -> {
            Check.dueRange("share", 0, 100, share -> withThree().propose(0, 0, 2, 817, share));
            Check.dueThrows("share, planned", Check.ARGUMENT, () -> inState(PLANNED).propose(0, 0, 2, 817, 101));
        });
        Check.sentence("Promise 18: -1 it is no DISPUTE;", () -> {
            for (int state = 0; state <= DONE; state++) {
                PartyWalls x = inState(state);
                Check.due("of " + state, x.propose(0, 0, 2, 817, 0), state == DISPUTE ? -2 : -1);
            }
            Check.due("awarded", awarded(4).propose(0, 0, 4, 1_015, 40), -1);
            PartyWalls x = withThree();
            x.begin(0);
            Check.due("void", x.propose(0, 0, 2, 817, 0), -1);
        });
        Check.sentence("Promise 18: -2 there is no such SURVEYOR.", () -> {
            PartyWalls x = inState(DISPUTE);
            x.surveyor(0);
            x.appoint(0, 1, 0, 1);
            Check.due("of side 0", x.propose(0, 0, 2, 817, 0), -2);
            Check.due("of side 1", x.propose(0, 1, 2, 817, 0), 0);
            Check.due("third", x.propose(0, 2, 2, 817, 0), -2);
            x.surveyor(0);
            x.surveyor(0);
            x.appoint(0, 0, 1, 0);
            Check.due("what was refused doesn't stand", x.propose(0, 0, 3, 817, 0), 0);
            Check.due("nor for the third", x.propose(0, 2, 4, 817, 0), 0);
            Check.due("dispute still", x.state(0), DISPUTE);
        });
    }

    private static void award() {
        Check.sentence("Terms 2: When two of them that stand are alike the WORK is AWARDED so, today;", () -> {
            int[][] pairs = {{0, 1}, {1, 0}, {0, 2}, {2, 0}, {1, 2}, {2, 1}};
            for (int[] pair : pairs) {
                PartyWalls x = withThree();
                Check.due("first", x.propose(0, pair[0], 7, 1_015, 40), 0);
                Check.due("another day", x.propose(0, pair[1], 8, 1_015, 40), 0);
                Check.due("another from", x.propose(0, pair[1], 7, 915, 40), 0);
                Check.due("another to", x.propose(0, pair[1], 7, 1_016, 40), 0);
                Check.due("another share", x.propose(0, pair[1], 7, 1_015, 41), 0);
                Check.due("of itself", x.propose(0, pair[0], 7, 1_015, 40), 0);
                x.wait(1);
                Check.due("alike", x.propose(0, pair[1], 7, 1_015, 40), 1);
                dueSame("award", x, ALLOWED, 7, -1, 10, 15, 40, -1, 7, -1);
            }
            PartyWalls x = withThree();
            x.propose(0, 0, 7, 1_015, 40);
            x.propose(0, 0, 8, 1_015, 40);
            Check.due("not like one that stands no more", x.propose(0, 1, 7, 1_015, 40), 0);
            Check.due("like the one instead", x.propose(0, 2, 8, 1_015, 40), 1);
        });
        Check.sentence("Terms 2: no PROPOSALS stand any more", () -> {
            for (int which = 0; which < 3; which++) {
                PartyWalls x = withThree();
                for (int i = 0; i < 3; i++) {
                    x.propose(0, i, 9, 817, i);
                }
                x.propose(0, 0, 5, 817, 50);
                x.propose(0, 1, 5, 817, 50);
                Check.due("awarded", x.appeal(0), 1);
                Check.due("like the third's, " + which, x.propose(0, which, 9, 817, which == 2 ? 50 : 2), 0);
                Check.due("dispute", x.state(0), DISPUTE);
            }
            PartyWalls x = awarded(4);
            x.appeal(0);
            Check.due("like that of both", x.propose(0, 2, 4, 1_015, 40), 0);
            Check.due("alike anew", x.propose(0, 0, 4, 1_015, 40), 1);
        });
    }

    private static void appeal() {
        Check.sentence("Promise 19: -1: it is not AWARDED,", () -> {
            for (int state = 0; state <= DONE; state++) {
                PartyWalls x = inState(state);
                Check.due("of " + state, x.appeal(0), -1);
                Check.due("state of " + state, x.state(0), state);
            }
            PartyWalls x = inState(ALLOWED);
            x.wait(10);
            x.begin(0);
            Check.due("begun by consent", x.appeal(0), -1);
            PartyWalls y = awarded(4);
            y.appeal(0);
            Check.due("appealed once", y.appeal(0), -1);
        });
        Check.sentence("Promise 19: or neither ALLOWED nor BEGUN;", () -> {
            PartyWalls x = awarded(4);
            x.begin(0);
            Check.due("void", x.appeal(0), -1);
            Check.due("it stays so", x.state(0), VOID);
            PartyWalls y = awarded(2);
            y.begin(0);
            y.done(0);
            Check.due("done", y.appeal(0), -1);
            Check.due("it stays so", y.state(0), DONE);
        });
        Check.sentence("Terms 2: Till appeal days (COUNTED) behind that DAY, that one in, it may be appealed", () -> {
            PartyWalls x = awarded(400);
            x.wait(3);
            Check.due("on the last day", x.appeal(0), 1);
            // Awarded anew on DAY 5, a DAY of rest between: 9.
            x.propose(0, 0, 400, 817, 0);
            x.propose(0, 2, 400, 817, 0);
            Check.due("over a day of rest", x.told(0, 6), 9);
            x.wait(4);
            Check.due("on the last day again", x.appeal(0), 1);
            PartyWalls y = Check.withWall(2, "appeal 0;");
            thirdOf(y, y.surveyor(0), y.surveyor(0));
            y.propose(0, 0, 0, 817, 0);
            y.propose(0, 1, 0, 817, 0);
            Check.due("of 0 days, on the day itself", y.appeal(0), 1);
        });
        Check.sentence("Promise 19: -2: the days are over", () -> {
            PartyWalls x = awarded(400);
            x.wait(4);
            Check.due("a day behind", x.appeal(0), -2);
            Check.due("it stays so", x.state(0), ALLOWED);
            PartyWalls y = awarded(2);
            y.begin(0);
            y.wait(4);
            Check.due("begun, a day behind", y.appeal(0), -2);
            Check.due("it stays so", y.state(0), BEGUN);
        });
        Check.sentence("Promise 19: (the first of these)", () -> {
            PartyWalls x = awarded(2);
            x.begin(0);
            x.done(0);
            x.wait(30);
            Check.due("done, and over", x.appeal(0), -1);
            PartyWalls y = awarded(400);
            y.begin(0);
            y.wait(30);
            Check.due("void, and over", y.appeal(0), -1);
        });
    }

    private static void appealed() {
        Check.sentence("Terms 2: it is a DISPUTE again, not BEGUN, with the same SURVEYORS", () -> {
            PartyWalls x = awarded(2);
            x.begin(0);
            x.enter(0, 10);
            x.wait(1);
            Check.due("appealed", x.appeal(0), 1);
            dueSame("appeal", x, DISPUTE, -1, 3, 9, 16, 100, -1, -1, -1);
            for (int which = 0; which < 3; which++) {
                Check.due("surveyor " + which, x.surveys(0, which), which);
            }
            Check.due("not begun, no entry", x.enter(0, 10), -1);
            Check.due("not begun, nothing built", x.build(0, 0, 0, 1, 1), -1);
            Check.due("not begun, nothing spent", x.spend(0, 5), -1);
            Check.due("not begun, not done", x.done(0), -1);
            Check.due("entries stay", x.entries(0, 0), 1);
            x.surveyor(0);
            Check.due("none is appointed anew", x.appoint(0, 1, 3, 1), -2);
            Check.due("begun in dispute", x.begin(0), 0);
        });
        Check.sentence("Terms 2: or appealed (from that DAY on)", () -> {
            PartyWalls x = awarded(400);
            x.wait(3);
            x.appeal(0);
            x.wait(40);
            Check.due("from the day of the appeal", x.told(0, 1), 5);
        });
    }

    private static void beginAndDone() {
        Check.sentence("Promise 20: -1, doing nothing: it is BEGUN, VOID or DONE.", () -> {
            for (int state : new int[] {BEGUN, VOID, DONE}) {
                PartyWalls x = inState(state);
                x.wait(5);
                Check.due("begin of " + state, x.begin(0), -1);
                Check.due("state of " + state, x.state(0), state);
                Check.due("day of begin of " + state, x.told(0, 7), 0);
            }
        });
        Check.sentence("Promise 21: -1: it is not BEGUN.", () -> {
            for (int state = 0; state <= DONE; state++) {
                PartyWalls x = inState(state);
                Check.due("done of " + state, x.done(0), state == BEGUN ? 1 : -1);
                Check.due("state of " + state, x.state(0), state == BEGUN ? DONE : state);
            }
        });
    }

    private static void fillBook(PartyWalls x, int work) {
        for (int i = x.count(9); i < 300; i++) {
            x.enter(work, 0);
        }
        Check.due("set up", x.count(9), 300);
    }

    private static void enter() {
        Check.sentence("Terms 2: at an hour (0 to 23)", () -> {
            for (int state : new int[] {PLANNED, BEGUN, DONE}) {
                Check.dueRange("hour of " + state, 0, 23, hour -> inState(state).enter(0, hour));
            }
        });
        Check.sentence("Promise 22: -1: the WORK is not BEGUN;", () -> {
            for (int state = 0; state <= DONE; state++) {
                PartyWalls x = inState(state);
                Check.due("kept of " + state, x.enter(0, 9), state == BEGUN ? 1 : -1);
                Check.due("broken of " + state, x.enter(0, 8), state == BEGUN ? 0 : -1);
                Check.due("entries of " + state, x.entries(0, 0) + x.entries(0, 1), state == BEGUN ? 2 : 0);
                Check.due("payments of " + state, x.count(9), state == BEGUN ? 1 : 0);
            }
        });
        Check.sentence("Terms 2: the hour is from its hours' first on, ahead of the second; else BROKEN", () -> {
            PartyWalls x = inState(BEGUN);
            for (int hour = 0; hour < 24; hour++) {
                Check.due("hour " + hour, x.enter(0, hour), hour >= 9 && hour < 16 ? 1 : 0);
            }
            PartyWalls y = awarded(2);
            y.begin(0);
            for (int hour = 0; hour < 24; hour++) {
                Check.due("awarded, hour " + hour, y.enter(0, hour), hour >= 10 && hour < 15 ? 1 : 0);
            }
            PartyWalls all = Check.withWall(2, "raise 0 if depth>0;hours 0-24;");
            all.work(0, 0, 0, 0, 0, 0);
            all.begin(0);
            Check.due("0 of 0 to 24", all.enter(0, 0), 1);
            Check.due("23 of 0 to 24", all.enter(0, 23), 1);
        });
        Check.sentence("Terms 2: if today is no DAY of rest (by its RULE)", () -> {
            PartyWalls x = inState(BEGUN);
            Check.rule(x, "rest 0 1 2 3 4 5;");
            for (int day = 0; day < 15; day++) {
                Check.due("day " + day, x.enter(0, 9), day % 7 == 6 ? 0 : 1);
                x.wait(1);
            }
        });
        Check.sentence("Promise 22: -2: it is BROKEN and the BOOK is full (nothing comes of it).", () -> {
            PartyWalls x = inState(BEGUN);
            fillBook(x, 0);
            Check.due("broken", x.enter(0, 0), -2);
            Check.due("entries", x.entries(0, 1), 300);
            Check.due("payments", x.count(9), 300);
            Check.due("kept", x.enter(0, 9), 1);
            Check.due("kept ones", x.entries(0, 0), 1);
            x.done(0);
            Check.due("-1 ahead of -2", x.enter(0, 0), -1);
        });
    }

    private static void entries() {
        Check.sentence("Promise 23: IllegalArgumentException: another what.", () -> {
            Check.dueRange("what", 0, 1, what -> inState(BEGUN).entries(0, what));
            Check.dueRange("what, planned", 0, 1, what -> inState(PLANNED).entries(0, what));
        });
        Check.sentence("Promise 23: How many ENTRIES into a WORK were KEPT (0), BROKEN (1).", () -> {
            PartyWalls x = inState(BEGUN);
            int other = x.work(0, 1, 0, 0, 0, 0);
            x.begin(other);
            Check.due("none", x.entries(0, 0) + x.entries(0, 1), 0);
            x.enter(0, 9);
            x.enter(0, 10);
            x.enter(0, 8);
            x.enter(other, 8);
            Check.due("kept", x.entries(0, 0), 2);
            Check.due("broken", x.entries(0, 1), 1);
            Check.due("of the other, kept", x.entries(other, 0), 0);
            Check.due("of the other, broken", x.entries(other, 1), 1);
        });
    }
}
