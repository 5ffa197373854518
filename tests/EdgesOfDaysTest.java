/** Each sentence on DAYS, OWNERS, WALLS and the RULE (promises 1 to 9, 44) that names an edge. */
public final class EdgesOfDaysTest {
    private static final String[] PLAIN_WORDS = {"raise", "cut", "dig", "cover", "post", "reply", "appoint",
        "appeal", "season", "near"};

    public static void main(String[] args) {
        newObject();
        owner();
        wall();
        sell();
        days();
        feed();
        ruleAndTape();
        fault();
        counted();
        textOfClauses();
        textOfConditions();
        textOfNumbers();
        textOfWords();
        lastOnesAndDefaults();
        faults();
        faultsOfDepth();
        count();
        Check.end();
    }

    private static PartyWalls withOwners(int owners) {
        PartyWalls x = new PartyWalls();
        for (int i = 0; i < owners; i++) {
            x.owner();
        }
        return x;
    }

    private static void dueText(String text, int want, int place) {
        Check.dueRule(new PartyWalls(), text, want, place);
    }

    private static void newObject() {
        Check.sentence("Promise 1: No OWNERS, WALLS, WORKS, SURVEYORS, HANDS, GAUGES, no RULE; an empty BOOK;", () -> {
            PartyWalls x = new PartyWalls();
            for (int what = 0; what <= 11; what++) {
                Check.due("count " + what, x.count(what), 0);
            }
            Check.due("fault", x.fault(), -1);
            Check.due("by no rule", x.counted(0, 7), 7);
        });
        Check.sentence("The constants", () -> {
            Check.due("NONE", PartyWalls.NONE, -1);
            Check.due("VOIDED", PartyWalls.VOIDED, -2_000_000_000);
        });
        Check.sentence("Terms 1: today is 0 at first", () -> {
            Check.due("wait 0", new PartyWalls().wait(0), 0);
            Check.due("today", new PartyWalls().count(3), 0);
        });
        Check.sentence("What it is: An object is used for at most 512 calls after it has been made;", () -> {
            PartyWalls x = new PartyWalls();
            String text = "dig 1 if depth<1" + "or depth<1".repeat(37) + "or depth>1" + ";" + " ".repeat(2);
            for (int i = 0; i < 24; i++) {
                Check.feed(x, text);
                Check.due("rule", x.rule(400), 1);
            }
            x.owner();
            x.wall(0, 0);
            Check.due("call 507", x.work(0, 0, 2, 2, 0, 0), 0);
            Check.due("call 508", x.state(0), 0);
            Check.due("call 509", x.begin(0), 0);
            Check.due("call 510", x.count(5), 0);
            Check.due("call 511", x.count(4), 1);
            Check.due("call 512", x.owner(), 1);
        });
    }

    private static void owner() {
        Check.sentence("Terms 1: OWNERS, numbered from 0 on, 20 at most", () -> {
            PartyWalls x = new PartyWalls();
            for (int i = 0; i < 20; i++) {
                Check.due("owner", x.owner(), i);
            }
        });
        Check.sentence("Promise 2: IllegalStateException: there are 20.", () -> {
            PartyWalls x = withOwners(20);
            Check.dueThrows("21st", Check.STATE, x::owner);
            Check.dueThrows("21st again", Check.STATE, x::owner);
            Check.due("owners", x.count(0), 20);
            Check.due("the 20th has a wall", x.wall(19, 0), 0);
        });
    }

    private static void wall() {
        Check.sentence("Terms 1: WALLS, numbered from 0 on, 6 at most", () -> {
            PartyWalls x = withOwners(2);
            for (int i = 0; i < 6; i++) {
                Check.due("wall", x.wall(0, 1), i);
            }
        });
        Check.sentence("Promise 3: (of SIDE 0, of SIDE 1; it may be one)", () -> {
            PartyWalls x = withOwners(3);
            Check.due("of one", x.wall(2, 2), 0);
            Check.due("of two", x.wall(2, 1), 1);
            Check.due("side 0 of one", x.sell(0, 0, 0), 2);
            Check.due("side 1 of one", x.sell(0, 1, 0), 2);
            Check.due("side 0 of two", x.sell(1, 0, 0), 2);
            Check.due("side 1 of two", x.sell(1, 1, 0), 1);
        });
        Check.sentence("Promise 3: IndexOutOfBoundsException: no such OWNER (so below)", () -> {
            Check.dueThrows("no owners", Check.INDEX, () -> new PartyWalls().wall(0, 0));
            Check.dueNumbers("one", 3, one -> withOwners(3).wall(one, 0));
            Check.dueNumbers("other", 3, other -> withOwners(3).wall(0, other));
            Check.dueNumbers("balance of", 3, owner -> withOwners(3).balance(owner, 0, 0));
            PartyWalls x = withOwners(3);
            Check.dueThrows("refused", Check.INDEX, () -> x.wall(0, 3));
            Check.due("walls", x.count(1), 0);
        });
        Check.sentence("Promise 3: IllegalStateException: there are 6.", () -> {
            PartyWalls x = withOwners(2);
            for (int i = 0; i < 6; i++) {
                x.wall(0, 1);
            }
            Check.dueThrows("7th", Check.STATE, () -> x.wall(0, 1));
            Check.dueThrows("7th of none", Check.INDEX, () -> x.wall(0, 2));
            Check.due("walls", x.count(1), 6);
        });
    }

    private static void sell() {
        Check.sentence("Promise 4: The OWNER of a SIDE of a WALL is another one from now on: who it was.", () -> {
            PartyWalls x = Check.withWall(3, "");
            Check.due("first", x.sell(0, 0, 2), 0);
            Check.due("to who has it", x.sell(0, 0, 2), 2);
            Check.due("to who has the other", x.sell(0, 0, 1), 2);
            Check.due("the other side", x.sell(0, 1, 0), 1);
        });
        Check.sentence("Promise 4: IndexOutOfBoundsException: also no such WALL;", () -> {
            Check.dueThrows("no walls", Check.INDEX, () -> withOwners(1).sell(0, 0, 0));
            Check.dueNumbers("wall", 1, wall -> Check.withWall(2, "").sell(wall, 0, 0));
            Check.dueNumbers("owner", 2, owner -> Check.withWall(2, "").sell(0, 0, owner));
            PartyWalls x = Check.withWall(2, "");
            Check.dueThrows("to none", Check.INDEX, () -> x.sell(0, 0, 2));
            Check.due("it is of who it was", x.sell(0, 0, 1), 0);
        });
        Check.sentence("Promise 4: IllegalArgumentException: no such SIDE (so below).", () -> {
            Check.dueRange("side to sell", 0, 1, side -> Check.withWall(2, "").sell(0, side, 0));
            Check.dueRange("side of a work", 0, 1, side -> Check.withWall(2, "").work(0, side, 0, 0, 0, 0));
            Check.dueRange("side that uses", 0, 1, side -> Check.withWall(2, "").use(0, side, 0, 0, 0));
        });
    }

    private static PartyWalls onDay(int day) {
        PartyWalls x = new PartyWalls();
        for (int left = day; left > 0; left -= 10_000) {
            x.wait(Math.min(left, 10_000));
        }
        return x;
    }

    private static void days() {
        Check.sentence("Promise 5: IllegalArgumentException: they are not 0 to 10,000;", () -> {
            Check.dueRange("days", 0, 10_000, days -> new PartyWalls().wait(days));
            Check.due("0 days", onDay(5).wait(0), 5);
            Check.due("10,000 days", onDay(5).wait(10_000), 10_005);
            PartyWalls x = onDay(5);
            Check.dueThrows("refused", Check.ARGUMENT, () -> x.wait(10_001));
            Check.due("today", x.count(3), 5);
            Check.dueThrows("refused, near the last", Check.ARGUMENT, () -> onDay(1_000_000).wait(10_001));
        });
        Check.sentence("Promise 5: IllegalStateException: today would be above 1,000,000.", () -> {
            PartyWalls x = onDay(999_999);
            Check.dueThrows("2 days", Check.STATE, () -> x.wait(2));
            Check.dueThrows("10,000 days", Check.STATE, () -> x.wait(10_000));
            Check.due("today", x.count(3), 999_999);
            Check.due("to the last one", x.wait(1), 1_000_000);
            Check.due("0 days on the last one", x.wait(0), 1_000_000);
            Check.dueThrows("1 day", Check.STATE, () -> x.wait(1));
        });
        Check.sentence("Terms 1: a DAY of the week is its number by 7, what is left", () -> {
            for (int rest = 0; rest < 7; rest++) {
                PartyWalls x = new PartyWalls();
                Check.rule(x, "rest " + rest + ";");
                for (int day = 0; day < 15; day++) {
                    int next = (day + 1) % 7 == rest ? day + 2 : day + 1;
                    Check.due("rest " + rest + ", behind " + day, x.counted(day, 1), next);
                }
                // 999,999 is of the DAY 0 of the week.
                Check.due("rest " + rest + ", far", x.counted(999_998, 1), rest == 0 ? 1_000_000 : 999_999);
            }
        });
    }

    private static void feed() {
        Check.sentence("Promise 6: Twenty bytes come on the TAPE, of each number the highest first", () -> {
            String text = "cover 1;reply 23;   ";
            // A word that is cut is a fault at its first byte.
            int[] places = {0, 0, 0, 0, 0, 5, 6, 7, 8, 8, 8, 8, 8, 13, 14, 15, 16, 17, 18, 19, -1};
            for (int cut = 0; cut <= 20; cut++) {
                PartyWalls x = new PartyWalls();
                Check.feed(x, text.substring(0, cut) + "\377".repeat(20 - cut));
                Check.due("text of " + cut, x.rule(20), cut == 20 ? 2 : -9);
                Check.due("place of " + cut, x.fault(), places[cut]);
            }
            for (int at = 0; at < 20; at++) {
                PartyWalls x = new PartyWalls();
                String texts = " ".repeat(at) + "\200" + "\377".repeat(19 - at);
                Check.feed(x, texts);
                Check.due("a byte above 127", x.rule(20), -9);
                Check.due("its place", x.fault(), at);
            }
        });
        Check.sentence("Promise 6: how many there are", () -> {
            PartyWalls x = new PartyWalls();
            for (int i = 1; i <= 20; i++) {
                Check.due("bytes", x.feed(-1, Integer.MIN_VALUE, 0, 1, Integer.MAX_VALUE), 20L * i);
                Check.due("bytes", x.count(5), 20L * i);
            }
        });
        Check.sentence("Promise 6: NONE, doing nothing, if there would be more than 400.", () -> {
            PartyWalls x = new PartyWalls();
            Check.feed(x, " ".repeat(392) + "post 17;");
            Check.due("21st", x.feed(0x3b3b3b3b, 0x3b3b3b3b, 0x3b3b3b3b, 0x3b3b3b3b, 0x3b3b3b3b), -1);
            Check.due("22nd", x.feed(0, 0, 0, 0, 0), -1);
            Check.due("bytes", x.count(5), 400);
            Check.due("all of them", x.rule(400), 1);
            Check.due("it is empty", x.feed(0, 0, 0, 0, 0), 20);
        });
    }

    private static void ruleAndTape() {
        Check.sentence("Promise 7: IllegalArgumentException: n is not 0 to the TAPE's bytes.", () -> {
            Check.dueRange("n of none", 0, 0, n -> new PartyWalls().rule(n));
            PartyWalls x = new PartyWalls();
            Check.rule(x, "post 5; x");
            Check.feed(x, "post 1;");
            for (int n : new int[] {-1, 21, 400, Integer.MIN_VALUE, Integer.MAX_VALUE}) {
                Check.dueThrows("rule(" + n + ")", Check.ARGUMENT, () -> x.rule(n));
            }
            Check.due("the bytes stay", x.count(5), 20);
            Check.due("the fault stays", x.fault(), 8);
            Check.due("all bytes", x.rule(20), 1);
            Check.feed(x, " ".repeat(400));
            Check.dueThrows("rule(401)", Check.ARGUMENT, () -> x.rule(401));
            Check.due("all that a tape holds", x.rule(400), 0);
        });
        Check.sentence("Promise 7: The first n bytes of the TAPE (empty then) are the RULE", () -> {
            PartyWalls x = new PartyWalls();
            Check.feed(x, "post 1;post 2;xxxxxx");
            Check.due("the first", x.rule(7), 1);
            Check.due("empty then", x.count(5), 0);
            Check.dueThrows("nothing is left", Check.ARGUMENT, () -> x.rule(1));
            Check.feed(x, "reply 3;");
            Check.due("none of them", x.rule(0), 0);
            Check.due("empty by 0 bytes", x.count(5), 0);
            Check.due("a rule without clauses", x.count(4), 0);
            Check.feed(x, "x");
            Check.due("a fault", x.rule(1), -9);
            Check.due("empty by a fault", x.count(5), 0);
            Check.due("of an empty tape", x.rule(0), 0);
        });
        Check.sentence("Promise 7: or its FAULT less 10 (the RULE stays).", () -> {
            PartyWalls x = new PartyWalls();
            Check.rule(x, "rest 1 2;post 3;");
            Check.due("fault 1", Check.rule(x, "rest 3;post 401 x"), -8);
            Check.due("fault 2", Check.rule(x, "rest 3;post x"), -9);
            Check.due("fault 3", Check.rule(x, "rest 3;" + "post 1;".repeat(20)), -7);
            Check.due("clauses stay", x.count(4), 2);
            Check.due("rest stays", x.counted(0, 1), 3);
            x.owner();
            x.wall(0, 0);
            x.work(0, 0, 0, 0, 0, 0);
            Check.due("post stays", x.notice(0), 3);
        });
    }

    private static void fault() {
        Check.sentence("Promise 8: The place of the FAULT of the latest rule(); NONE without.", () -> {
            PartyWalls x = new PartyWalls();
            Check.due("no rule() yet", x.fault(), -1);
            Check.dueRule(x, "post 1;", 1, -1);
            Check.dueRule(x, "x", -9, 0);
            Check.dueRule(x, "post 401;", -8, 5);
            Check.feed(x, "post");
            Check.due("still the latest", x.fault(), 5);
            Check.due("no bytes", x.rule(0), 0);
            Check.due("without", x.fault(), -1);
            Check.dueRule(x, " ".repeat(399) + "x", -9, 399);
            Check.dueRule(x, " ".repeat(396) + "post", -9, 400);
        });
    }

    private static void counted() {
        Check.sentence("Promise 9: IllegalArgumentException: the DAY is not 0 to 1,000,000", () -> {
            Check.dueRange("day", 0, 1_000_000, day -> new PartyWalls().counted(day, 1));
            Check.due("the last day", new PartyWalls().counted(1_000_000, 400), 1_000_400);
        });
        Check.sentence("Promise 9: or days not 0 to 400;", () -> {
            Check.dueRange("days", 0, 400, days -> new PartyWalls().counted(3, days));
            Check.due("400", new PartyWalls().counted(3, 400), 403);
        });
        Check.sentence("Promise 9: all DAYS of the week are of rest, and days are above 0.", () -> {
            PartyWalls x = new PartyWalls();
            Check.rule(x, "rest 6 5 4 3 2 1 0;");
            Check.dueThrows("1 day", Check.STATE, () -> x.counted(0, 1));
            Check.dueThrows("400 days", Check.STATE, () -> x.counted(1_000_000, 400));
            Check.due("0 days", x.counted(4, 0), 4);
            Check.dueThrows("no such days", Check.ARGUMENT, () -> x.counted(0, 401));
            Check.dueThrows("no such day", Check.ARGUMENT, () -> x.counted(1_000_001, 1));
            Check.rule(x, "rest 6 5 4 3 2 1;");
            Check.due("one is not", x.counted(0, 400), 2_800);
        });
        Check.sentence("Terms 1: DAYS of rest are passed by; by 0 days: the DAY itself.", () -> {
            PartyWalls x = new PartyWalls();
            Check.rule(x, "rest 0 6;");
            Check.due("0 days, of rest", x.counted(6, 0), 6);
            Check.due("0 days", x.counted(1, 0), 1);
            Check.due("1 day, the next of rest", x.counted(5, 1), 8);
            Check.due("1 day, from one of rest", x.counted(6, 1), 8);
            Check.due("5 days", x.counted(7, 5), 12);
            Check.due("6 days", x.counted(7, 6), 15);
        });
    }

    private static void textOfClauses() {
        Check.sentence("Terms 1: RULE: a text: { CLAUSE \";\" }", () -> {
            dueText("", 0, -1);
            dueText("post 1;", 1, -1);
            dueText("post 1", -9, 6);
            dueText(";", -9, 0);
            dueText("post 1;;", -9, 7);
            dueText("post 1 post 2;", -9, 7);
        });
        Check.sentence("Terms 1: CLAUSE: SORT N, perhaps \"if\" C", () -> {
            for (String sort : new String[] {"raise", "cut", "dig", "cover"}) {
                int at = sort.length();
                dueText(sort + " 5;", 1, -1);
                dueText(sort + " 5 if depth<1;", 1, -1);
                dueText(sort + ";", -9, at);
                dueText(sort + " if depth<1;", -9, at + 1);
                dueText(sort + " 5 if;", -9, at + 5);
                dueText(sort + " 5 depth<1;", -9, at + 3);
                dueText(sort + " 5 if depth<1 if depth<1;", -9, at + 14);
            }
        });
        Check.sentence("Terms 1: (days of notice, needed just if C holds of a WORK; without if: always)", () -> {
            PartyWalls x = Check.withWall(2, "raise 5 if depth>3;cut 6 if depth<0;dig 7;");
            int[] needed = {x.work(0, 0, 0, 4, 0, 0), x.work(0, 0, 2, 0, 0, 0), x.work(0, 0, 3, 0, 0, 0)};
            int[] free = {x.work(0, 0, 0, 3, 0, 0), x.work(0, 0, 1, 0, 0, 0)};
            int[] days = {5, 7, 30};
            for (int i = 0; i < needed.length; i++) {
                Check.due("needed", x.state(needed[i]), 0);
                x.notice(needed[i]);
                x.answer(needed[i], true);
                Check.due("days of notice", x.told(needed[i], 0), days[i]);
            }
            for (int work : free) {
                Check.due("not needed", x.state(work), 1);
            }
        });
        Check.sentence("Terms 1: \"rest\" N { N } (DAYS of the week, 0 to 6)", () -> {
            dueText("rest;", -9, 4);
            dueText("rest", -9, 4);
            dueText("rest 0;", 1, -1);
            dueText("rest 0 1 2 3 4 5 6;", 1, -1);
            dueText("rest 3 3 3 3 3 3 3 3 3;", 1, -1);
            dueText("rest 3, 4;", -9, 6);
            dueText("rest 3 post 1;", -9, 7);
        });
        Check.sentence("Terms 1: \"silence\" and \"consent\" or \"dispute\"", () -> {
            dueText("silence consent;", 1, -1);
            dueText("silence dispute;", 1, -1);
            dueText("silence;", -9, 7);
            dueText("silence", -9, 7);
            dueText("silence consent dispute;", -9, 16);
            dueText("silence disputes;", -9, 8);
            dueText("silence 1;", -9, 8);
            dueText("silence post;", -9, 8);
        });
        Check.sentence("Terms 1: \"hours\" N \"-\" N", () -> {
            dueText("hours 8 - 17;", 1, -1);
            dueText("hours 8;", -9, 7);
            dueText("hours 8 17;", -9, 8);
            dueText("hours 8-;", -9, 8);
            dueText("hours -17;", -9, 6);
            dueText("hours 8--17;", -9, 8);
            dueText("hours 8-17-18;", -9, 10);
        });
    }

    /** Whether a WORK to cover needs notice, if just such ones do. */
    private static void dueNeeds(String text, int depth, int close, int height, boolean want) {
        PartyWalls x = Check.withWall(2, "cover 3 if " + text + ";");
        x.work(0, 0, 3, depth, close, height);
        Check.due("'" + text + "' of " + depth + " " + close + " " + height, x.state(0), want ? 0 : 1);
    }

    private static void textOfConditions() {
        Check.sentence("Terms 1: M and \"<\" or \">\" and N", () -> {
            String[] names = {"depth", "close", "height"};
            for (int m = 0; m < 3; m++) {
                for (int value = 4; value <= 6; value++) {
                    int depth = m == 0 ? value : 5;
                    int close = m == 1 ? value : 5;
                    int height = m == 2 ? value : 5;
                    dueNeeds(names[m] + "<5", depth, close, height, value < 5);
                    dueNeeds(names[m] + ">5", depth, close, height, value > 5);
                }
            }
            dueNeeds("depth<0", 0, 0, 0, false);
            dueNeeds("depth>0", 0, 9, 9, false);
            dueNeeds("depth>9999", 9_999, 0, 0, false);
            dueNeeds("depth<9999", 9_998, 0, 0, true);
            dueNeeds("depth<9999", 0, 0, 0, true);
            dueNeeds("depth>9999", 0, 0, 9_999, false);
            dueNeeds("close<9999", 0, 0, 0, true);
            dueNeeds("height<9999", 0, 0, 9_999, false);
            dueText("cut 1 if depth=1;", -9, 14);
            dueText("cut 1 if depth<=1;", -9, 15);
            dueText("cut 1 if depth<;", -9, 15);
            dueText("cut 1 if depth<close;", -9, 15);
            dueText("cut 1 if 1<depth;", -9, 9);
        });
        Check.sentence("Terms 1: C: A { \"or\" A }. A: B { \"and\" B }.", () -> {
            for (int bits = 0; bits < 8; bits++) {
                int a = bits & 1;
                int b = bits >> 1 & 1;
                int c = bits >> 2;
                boolean[] is = {a == 1, b == 1, c == 1};
                dueNeeds("depth>0 or close>0 and height>0", a, b, c, is[0] || is[1] && is[2]);
                dueNeeds("depth>0 and close>0 or height>0", a, b, c, is[0] && is[1] || is[2]);
                dueNeeds("(depth>0 or close>0) and height>0", a, b, c, (is[0] || is[1]) && is[2]);
                dueNeeds("depth>0 and (close>0 or height>0)", a, b, c, is[0] && (is[1] || is[2]));
                dueNeeds("depth>0 or close>0 or height>0", a, b, c, bits != 0);
                dueNeeds("depth>0 and close>0 and height>0", a, b, c, bits == 7);
            }
            dueText("cut 1 if or depth<1;", -9, 9);
            dueText("cut 1 if depth<1 or;", -9, 19);
            dueText("cut 1 if depth<1 and;", -9, 20);
            dueText("cut 1 if depth<1 or and depth<1;", -9, 20);
            dueText("cut 1 if depth<1 depth<1;", -9, 17);
        });
        Check.sentence("Terms 1: B: \"not\" B, \"(\" C \")\"", () -> {
            for (int bits = 0; bits < 4; bits++) {
                int a = bits & 1;
                int b = bits >> 1;
                boolean[] is = {a == 1, b == 1};
                dueNeeds("not depth>0 and close>0", a, b, 0, !is[0] && is[1]);
                dueNeeds("not depth>0 or close>0", a, b, 0, !is[0] || is[1]);
                dueNeeds("not (depth>0 and close>0)", a, b, 0, !(is[0] && is[1]));
                dueNeeds("not (depth>0 or close>0)", a, b, 0, !(is[0] || is[1]));
                dueNeeds("not not depth>0", a, b, 0, is[0]);
                dueNeeds("not not not depth>0", a, b, 0, !is[0]);
                dueNeeds("depth>0 and not close>0", a, b, 0, is[0] && !is[1]);
            }
            dueText("cut 1 if not;", -9, 12);
            dueText("cut 1 if ();", -9, 10);
            dueText("cut 1 if (depth<1;", -9, 17);
            dueText("cut 1 if depth<1);", -9, 16);
            dueText("cut 1 if (not);", -9, 13);
            dueText("cut 1 if depth not <1;", -9, 15);
        });
    }

    private static void textOfNumbers() {
        Check.sentence("Terms 1: N: digits, as many as stand there, 0 to 400", () -> {
            for (String word : PLAIN_WORDS) {
                int at = word.length() + 1;
                dueText(word + " 0;", 1, -1);
                dueText(word + " 400;", 1, -1);
                dueText(word + " 401;", -8, at);
                dueText(word + " 00000000000000000000400;", 1, -1);
                dueText(word + " 4000;", -8, at);
                dueText(word + " -1;", -9, at);
                dueText(word + " +1;", -9, at);
                // What is left of these by 2 to the 31, 32 or 64 would be such a number.
                dueText(word + " 2147483648;", -8, at);
                dueText(word + " 4294967296;", -8, at);
                dueText(word + " 4294967297;", -8, at);
                dueText(word + " 18446744073709551617;", -8, at);
                dueText(word + " 1" + "0".repeat(200) + ";", -8, at);
            }
            PartyWalls x = Check.withWall(2, "raise 400;post 400;reply 400;");
            x.work(0, 0, 0, 0, 0, 0);
            Check.due("post 400", x.notice(0), 400);
            Check.due("reply 400", x.told(0, 5), 800);
            x.wait(400);
            x.answer(0, true);
            Check.due("raise 400", x.told(0, 0), 800);
        });
        Check.sentence("Terms 1: (of rest 0 to 6;", () -> {
            for (int day = 0; day <= 6; day++) {
                dueText("rest " + day + ";", 1, -1);
            }
            dueText("rest 7;", -8, 5);
            dueText("rest 0 7;", -8, 7);
            dueText("rest 6 400;", -8, 7);
            dueText("rest 32;", -8, 5);
        });
        Check.sentence("Terms 1: of fade 0 to 100;", () -> {
            dueText("fade 0;", 1, -1);
            dueText("fade 100;", 1, -1);
            dueText("fade 101;", -8, 5);
            dueText("fade 400;", -8, 5);
        });
        Check.sentence("Terms 1: of hours 0 to 24, the second above the first;", () -> {
            dueText("hours 0-24;", 1, -1);
            dueText("hours 0-1;", 1, -1);
            dueText("hours 23-24;", 1, -1);
            dueText("hours 25-26;", -8, 6);
            dueText("hours 0-25;", -8, 8);
            dueText("hours 24-24;", -8, 9);
            dueText("hours 24-25;", -8, 9);
            dueText("hours 0-0;", -8, 8);
            dueText("hours 9-9;", -8, 8);
            dueText("hours 9-8;", -8, 8);
            dueText("hours 9-0;", -8, 8);
        });
        Check.sentence("Terms 1: of a B 0 to 9,999)", () -> {
            for (String m : new String[] {"depth", "close", "height"}) {
                int at = 10 + m.length();
                dueText("cut 1 if " + m + "<0;", 1, -1);
                dueText("cut 1 if " + m + ">9999;", 1, -1);
                dueText("cut 1 if " + m + ">09999;", 1, -1);
                dueText("cut 1 if " + m + ">10000;", -8, at);
                dueText("cut 1 if " + m + "<4294967296;", -8, at);
            }
        });
    }

    private static void textOfWords() {
        Check.sentence("Terms 1: WORDS: small letters, as many as stand there", () -> {
            dueText("Post 1;", -9, 0);
            dueText("poSt 1;", -9, 0);
            dueText("POST 1;", -9, 0);
            dueText("posts 1;", -9, 0);
            dueText("xost 1;", -9, 0);
            dueText("ost 1;", -9, 0);
            dueText("postpost 1;", -9, 0);
            dueText("po st 1;", -9, 0);
            dueText("pos", -9, 0);
            dueText("post1;", 1, -1);
            dueText("postx1;", -9, 0);
            dueText("silenceconsent;", -9, 0);
            dueText("raise5if depth<3or close<3and height<3;", 1, -1);
            dueText("raise 5 ifdepth<3;", -9, 8);
            dueText("raise 5 if notdepth<3;", -9, 11);
            dueText("raise 5 if depth<3 orclose<3;", -9, 19);
            dueText("raise 5 if not(depth<3)and(depth<3)or(not depth<3);", 1, -1);
        });
        Check.sentence("Terms 1: blanks (32) may stand ahead of all these, and at the end", () -> {
            dueText("  raise  5  if  (  not  depth  <  3  or  close  >  4  )  and  height  <  5  ;  ", 1, -1);
            dueText("  rest  1  2  ;  silence  consent  ;  hours  8  -  17  ;  fade  9  ;  ", 4, -1);
            dueText(" ".repeat(400), 0, -1);
            dueText("post 1; ", 1, -1);
            dueText("post 1 2;", -9, 7);
            for (char other : new char[] {9, 10, 13, 0, 11, 160, 255, 31, 33}) {
                dueText("post" + other + "1;", -9, 4);
                dueText(other + "post 1;", -9, 0);
                dueText("post 1;" + other, -9, 7);
            }
        });
        Check.sentence("Terms 1: one at least between two N", () -> {
            dueText("rest 12;", -8, 5);
            PartyWalls x = new PartyWalls();
            Check.dueRule(x, "rest 06;", 1, -1);
            Check.due("6 is of rest", x.counted(5, 1), 7);
            Check.dueRule(x, "rest 0 6;", 1, -1);
            Check.due("0 is, too", x.counted(5, 1), 8);
            Check.dueRule(x, "rest 0    6;", 1, -1);
            Check.due("by more than one", x.counted(5, 1), 8);
        });
    }

    private static void lastOnesAndDefaults() {
        Check.sentence("Terms 1: of a kind (of a SORT) the last one counts", () -> {
            PartyWalls x = Check.withWall(2, "raise 1;raise 2;cut 1 if depth>0;cut 2;cover 1;cover 2 if depth>0;"
                    + "post 1;post 2;rest 0 1 2;rest 2;reply 1;reply 2;silence consent;silence dispute;"
                    + "appoint 1;appoint 0;hours 1-2;hours 3-4;");
            Check.due("clauses", x.count(4), 18);
            Check.due("rest", x.counted(6, 2), 8);
            int raise = x.work(0, 0, 0, 0, 0, 0);
            Check.due("cut, without if", x.state(x.work(0, 0, 1, 0, 0, 0)), 0);
            Check.due("cover, with if", x.state(x.work(0, 0, 3, 0, 0, 0)), 1);
            Check.due("dig has none", x.state(x.work(0, 0, 2, 0, 0, 0)), 0);
            Check.due("post", x.notice(raise), 2);
            Check.due("reply", x.told(raise, 5), 4);
            Check.due("hours", 100 * x.told(raise, 2) + x.told(raise, 3), 304);
            x.wait(2);
            x.answer(raise, true);
            Check.due("raise", x.told(raise, 0), 4);
            int silent = x.work(0, 0, 2, 0, 0, 0);
            x.notice(silent);
            x.wait(10);
            Check.due("silence", x.state(silent), 4);
            x.surveyor(0);
            Check.due("appoint", x.appoint(silent, 1, 0, 0), 1);
        });
        Check.sentence("Terms 1: of a kind the last one counts (appeal, fade, season, near)", () -> {
            PartyWalls x = Check.withWall(2, "raise 0 if depth>0;appeal 1;appeal 9;fade 1;fade 50;season 1;season 5;"
                    + "near 1;near 7;");
            dueDispute(x);
            x.propose(0, 0, 0, 817, 0);
            x.propose(0, 1, 0, 817, 0);
            Check.due("appeal", x.told(0, 6), 9);
            x.begin(x.work(0, 0, 0, 0, 0, 0));
            x.build(1, 0, 0, 1, 100);
            x.wait(365);
            Check.due("fade", x.cell(0, 0, 0, 1), 50);
            dueGrowth(x, 7, 5);
        });
        Check.sentence("Terms 1: Without: all SORTS 30 always, post 0", () -> {
            PartyWalls x = Check.withWall(2, "");
            for (int sort = 0; sort < 4; sort++) {
                x.work(0, 0, sort, 0, 0, 0);
                Check.due("always", x.state(sort), 0);
                Check.due("post 0", x.notice(sort), 0);
                x.answer(sort, true);
                Check.due("30", x.told(sort, 0), 30);
            }
        });
        Check.sentence("Terms 1: Without: no rest, reply 14, silence dispute, appoint 10", () -> {
            PartyWalls x = Check.withWall(2, "");
            x.work(0, 0, 0, 0, 0, 0);
            x.notice(0);
            Check.due("reply 14", x.told(0, 5), 14);
            x.wait(15);
            Check.due("silence dispute", x.told(0, 1), 15);
            x.surveyor(0);
            x.wait(10);
            Check.due("appoint 10", x.appoint(0, 1, 0, 0), -3);
            x.wait(1);
            Check.due("behind them", x.appoint(0, 1, 0, 0), 1);
        });
        Check.sentence("Terms 1: Without: appeal 14, hours 8-17, fade 0, season 10, near 50", () -> {
            PartyWalls x = Check.withWall(2, "");
            dueDispute(x);
            Check.due("hours", 100 * x.told(0, 2) + x.told(0, 3), 817);
            x.propose(0, 0, 0, 310, 0);
            x.propose(0, 1, 0, 310, 0);
            Check.due("appeal 14", x.told(0, 6), 14);
            x.begin(0);
            x.build(0, 0, 0, 1, 100);
            x.wait(3_650);
            Check.due("fade 0", x.cell(0, 0, 0, 1), 100);
            dueGrowth(x, 50, 10);
        });
    }

    /** WORK 0 in DISPUTE on DAY 0, with SURVEYORS 0 and 1. */
    private static void dueDispute(PartyWalls x) {
        x.work(0, 0, 0, 1, 0, 0);
        x.notice(0);
        x.answer(0, false);
        for (int side = 0; side < 2; side++) {
            x.appoint(0, side, x.surveyor(0), side);
        }
        Check.due("dispute", x.state(0), 4);
    }

    private static void dueGrowth(PartyWalls x, int near, int season) {
        x.hand(0);
        for (int i = 0; i < 2; i++) {
            x.survey(0);
        }
        x.crack(0, 0, 0);
        x.crack(0, 1_000, 0);
        x.crack(0, 2_000, 0);
        x.crack(1, near, season);
        x.crack(1, 1_000, season + 1);
        x.crack(1, 2_001 + near, 0);
        Check.due("the same", x.joined(0, 1, 0), 1);
        Check.due("grown", x.joined(0, 1, 1), 1);
        Check.due("new", x.joined(0, 1, 2), 1);
    }

    private static void faults() {
        String twenty = "near 1;".repeat(20);
        Check.sentence("Terms 1: FAULTS, the first from the left, at its first byte", () -> {
            dueText("post 401; reply x;", -8, 5);
            dueText("post x; reply 401;", -9, 5);
            dueText("post   401;", -8, 7);
            dueText("   xyz 1;", -9, 3);
            dueText("post 1   reply 2;", -9, 9);
            dueText(twenty + "   near 401;", -7, 143);
            dueText("near 401;" + twenty, -8, 5);
            dueText("hours 25-24;", -8, 6);
        });
        Check.sentence("Terms 1: 1 what can't stand there", () -> {
            for (String other : new String[] {"if", "or", "and", "not", "depth", "close", "height", "x", "-", "<", ">",
                "(", ")", "!"}) {
                dueText(other + " 1;", -9, 0);
                dueText("post " + other + ";", -9, 5);
                dueText("silence " + other + ";", -9, 8);
            }
            for (String other : new String[] {"7;", "consent;", "dispute;", "401;"}) {
                dueText(other, -9, 0);
            }
            dueText("post consent;", -9, 5);
            dueText("silence 7;", -9, 8);
            dueText("post 1 if depth<1;", -9, 7);
            dueText("post 1,", -9, 6);
        });
        Check.sentence("Terms 1: (at the length, if the text ends too early)", () -> {
            String[] texts = {"post", "post 1", "silence", "silence consent", "rest", "rest 1", "hours", "hours 8",
                "hours 8-", "hours 8-9", "cut", "cut 1", "cut 1 if", "cut 1 if not", "cut 1 if (", "cut 1 if depth",
                "cut 1 if depth<", "cut 1 if depth<1", "cut 1 if (depth<1", "cut 1 if depth<1 or",
                "cut 1 if depth<1 and", "cut 1 if (depth<1)"};
            for (String text : texts) {
                dueText(text, -9, text.length());
                dueText(text + "   ", -9, text.length() + 3);
            }
        });
        Check.sentence("Terms 1: 2 an N that is none such", () -> {
            dueText("post 401", -8, 5);
            dueText("rest 9", -8, 5);
            dueText("cut 1 if depth<10000", -8, 15);
            dueText("hours 9-9", -8, 8);
            dueText("fade 101x", -8, 5);
        });
        Check.sentence("Terms 1: At most 20 CLAUSES", () -> {
            dueText(twenty, 20, -1);
            dueText(twenty + " ".repeat(5), 20, -1);
            PartyWalls x = new PartyWalls();
            Check.rule(x, twenty);
            Check.due("clauses", x.count(4), 20);
        });
        Check.sentence("Terms 1: 3 a 21st CLAUSE", () -> {
            dueText(twenty + "near 1;", -7, 140);
            dueText(twenty + "near", -7, 140);
            dueText(twenty + " near 1;", -7, 141);
            dueText("near 1;".repeat(30), -7, 140);
        });
        Check.sentence("Terms 1: of one the least", () -> {
            dueText(twenty + "x", -9, 140);
            dueText(twenty + ";", -9, 140);
            dueText(twenty + "401", -9, 140);
            dueText(twenty + "consent", -9, 140);
            dueText("post 1 401;", -9, 7);
            dueText("silence 401;", -9, 8);
            dueText("cut 1 if " + "(".repeat(8) + "depth<1 (", -9, 25);
            dueText("cut 1 if " + "(".repeat(8) + "depth<1 not", -9, 25);
        });
    }

    private static void faultsOfDepth() {
        Check.sentence("Terms 1: a 9th \"not\" or \"(\" that is open at one time", () -> {
            dueText("dig 1 if " + "not ".repeat(8) + "depth<1;", 1, -1);
            dueText("dig 1 if " + "not ".repeat(9) + "depth<1;", -7, 9 + 32);
            dueText("dig 1 if " + "(".repeat(8) + "depth<1" + ")".repeat(8) + ";", 1, -1);
            dueText("dig 1 if " + "(".repeat(9) + "depth<1" + ")".repeat(9) + ";", -7, 9 + 8);
            for (int nots = 0; nots <= 8; nots++) {
                String open = "not ".repeat(nots) + "(".repeat(8 - nots);
                String end = "depth<1" + ")".repeat(8 - nots) + ";";
                dueText("dig 1 if " + open + end, 1, -1);
                dueText("dig 1 if " + open + " (" + end, -7, 10 + open.length());
                dueText("dig 1 if " + open + " not " + end, -7, 10 + open.length());
                String other = "(".repeat(8 - nots) + "not ".repeat(nots);
                dueText("dig 1 if " + other + end, 1, -1);
                dueText("dig 1 if " + other + " not " + end, -7, 10 + other.length());
            }
        });
        Check.sentence("Terms 1: (a not till its B ends)", () -> {
            dueText("dig 1 if " + "not depth<1 and ".repeat(11) + "not depth<1;", 1, -1);
            dueText("dig 1 if " + "not depth<1 or ".repeat(11) + "not depth<1;", 1, -1);
            dueText("dig 1 if " + "(depth<1) and ".repeat(11) + "(depth<1);", 1, -1);
            dueText("dig 1 if " + "not (depth<1) or ".repeat(11) + "(depth<1);", 1, -1);
            String seven = "(".repeat(7);
            dueText("dig 1 if " + seven + "not depth<1 and not depth<1 or (depth<1)" + ")".repeat(7) + ";", 1, -1);
            dueText("dig 1 if " + seven + "not (", -7, 20);
            dueText("dig 1 if " + "not ".repeat(8) + "depth<1 or " + "not ".repeat(8) + "depth<1;", 1, -1);
            dueText("dig 1 if " + "not ".repeat(8) + "depth<1 or " + "not ".repeat(9) + "depth<1;", -7, 52 + 32);
            // The not is open till its bracket is closed.
            dueText("dig 1 if not (" + "(".repeat(6) + "depth<1 or not", -7, 31);
            dueText("dig 1 if not (" + "(".repeat(5) + "depth<1 or not depth<1" + ")".repeat(6) + ";", 1, -1);
            // Of a new CLAUSE none is open.
            dueText("dig 1 if " + "not ".repeat(8) + "depth<1;cut 1 if " + "not ".repeat(8) + "depth<1;", 2, -1);
        });
    }

    private static void count() {
        Check.sentence("Promise 44: NONE for others.", () -> {
            PartyWalls x = Check.withWall(2, "post 1;");
            for (int what : new int[] {-1, -2, 12, 13, Integer.MIN_VALUE, Integer.MAX_VALUE}) {
                Check.due("count " + what, x.count(what), -1);
            }
        });
        Check.sentence("Promise 44: int count(int what): what can be no more", () -> {
            PartyWalls x = Check.withWall(20, "raise 0 if depth>0;");
            for (int i = 1; i < 6; i++) {
                x.wall(0, 1);
            }
            for (int i = 0; i < 30; i++) {
                x.work(0, 0, 0, 0, 0, 0);
            }
            for (int i = 0; i < 5; i++) {
                x.hand(0);
            }
            for (int i = 0; i < 10; i++) {
                x.survey(0);
                x.gauge();
            }
            for (int i = 0; i < 12; i++) {
                x.surveyor(0);
            }
            x.begin(0);
            for (int i = 0; i < 300; i++) {
                x.enter(0, 0);
            }
            for (int i = 0; i < 60; i++) {
                x.mend(0, 0);
            }
            int[] want = {20, 6, 30, 0, 1, 0, 5, 10, 12, 300, 10, 60};
            for (int what = 0; what < want.length; what++) {
                Check.due("count " + what, x.count(what), want[what]);
            }
        });
    }
}
