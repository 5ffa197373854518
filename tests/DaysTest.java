/** Promises 1 to 9 and 44: days, owners, walls, the TAPE and the RULE. */
public final class DaysTest {
    public static void main(String[] args) {
        promise1();
        promise2();
        promise3();
        promise4();
        promise5();
        promise6();
        promise7Clauses();
        promise7Numbers();
        promise7Words();
        promise7Conditions();
        promise7Limits();
        promise7LastCounts();
        promise7FirstBytes();
        promise7WholeTape();
        promise7Without();
        promise8();
        promise9();
        promise44();
        Check.end();
    }

    private static void promise1() {
        PartyWalls x = new PartyWalls();
        for (int what = 0; what <= 11; what++) {
            Check.due("new, count " + what, x.count(what), 0);
        }
        Check.due("new, fault", x.fault(), -1);
        Check.dueThrows("new, balance(0)", Check.INDEX, () -> x.balance(0, 0, 0));
        Check.dueThrows("new, state(0)", Check.INDEX, () -> x.state(0));
        Check.dueThrows("new, payment(0)", Check.INDEX, () -> x.payment(0, 0));
        Check.dueThrows("new, cell(0)", Check.INDEX, () -> x.cell(0, 0, 0, 0));
        Check.dueThrows("new, at(0)", Check.INDEX, () -> x.at(0, 0));
        Check.due("NONE", PartyWalls.NONE, -1);
        Check.due("VOIDED", PartyWalls.VOIDED, -2000000000);
    }

    private static void promise2() {
        PartyWalls x = new PartyWalls();
        for (int i = 0; i < 20; i++) {
            Check.due("owner", x.owner(), i);
        }
        Check.dueThrows("21st owner", Check.STATE, x::owner);
        Check.due("owners", x.count(0), 20);
    }

    private static void promise3() {
        PartyWalls x = new PartyWalls();
        x.owner();
        x.owner();
        Check.dueThrows("wall(2, 0)", Check.INDEX, () -> x.wall(2, 0));
        Check.dueThrows("wall(0, 2)", Check.INDEX, () -> x.wall(0, 2));
        Check.dueThrows("wall(-1, 0)", Check.INDEX, () -> x.wall(-1, 0));
        Check.dueThrows("wall(0, -1)", Check.INDEX, () -> x.wall(0, -1));
        for (int i = 0; i < 6; i++) {
            Check.due("wall", x.wall(1, i % 2), i);
        }
        Check.dueThrows("7th wall", Check.STATE, () -> x.wall(0, 1));
        Check.dueThrows("7th wall, no owner", Check.INDEX, () -> x.wall(0, 2));
        Check.due("walls", x.count(1), 6);
    }

    private static void promise4() {
        PartyWalls x = Check.withWall(4, "");
        Check.due("sell side 1", x.sell(0, 1, 3), 1);
        Check.due("sell side 1 again", x.sell(0, 1, 2), 3);
        Check.due("sell to itself", x.sell(0, 1, 2), 2);
        Check.due("sell side 0", x.sell(0, 0, 2), 0);
        Check.dueThrows("sell no wall", Check.INDEX, () -> x.sell(1, 0, 0));
        Check.dueThrows("sell wall -1", Check.INDEX, () -> x.sell(-1, 0, 0));
        Check.dueThrows("sell to none", Check.INDEX, () -> x.sell(0, 0, 4));
        Check.dueThrows("sell to -1", Check.INDEX, () -> x.sell(0, 0, -1));
        Check.dueThrows("sell side 2", Check.ARGUMENT, () -> x.sell(0, 2, 0));
        Check.dueThrows("sell side -1", Check.ARGUMENT, () -> x.sell(0, -1, 0));
        Check.dueThrows("sell side 2 to none", Check.INDEX, () -> x.sell(0, 2, 4));
        Check.due("side 0 is still of", x.sell(0, 0, 1), 2);
        x.wall(3, 2);
        Check.due("side 0 of another", x.sell(1, 0, 1), 3);
        Check.due("side 1 of another", x.sell(1, 1, 1), 2);
    }

    private static void promise5() {
        PartyWalls x = new PartyWalls();
        Check.due("wait 0", x.wait(0), 0);
        Check.due("wait 7", x.wait(7), 7);
        Check.dueThrows("wait -1", Check.ARGUMENT, () -> x.wait(-1));
        Check.dueThrows("wait 10001", Check.ARGUMENT, () -> x.wait(10_001));
        Check.dueThrows("wait most", Check.ARGUMENT, () -> x.wait(Integer.MAX_VALUE));
        for (int i = 1; i < 100; i++) {
            Check.due("wait 10000", x.wait(10_000), 7 + 10_000L * i);
        }
        Check.dueThrows("wait beyond", Check.STATE, () -> x.wait(9_994));
        Check.dueThrows("wait beyond, none such", Check.ARGUMENT, () -> x.wait(10_001));
        Check.due("wait to the last day", x.wait(9_993), 1_000_000);
        Check.dueThrows("wait one more", Check.STATE, () -> x.wait(1));
        Check.due("wait 0 at the end", x.wait(0), 1_000_000);
        Check.due("today", x.count(3), 1_000_000);
    }

    private static void promise6() {
        PartyWalls x = new PartyWalls();
        for (int i = 1; i <= 20; i++) {
            Check.due("feed", x.feed(0, 0, 0, 0, 0), 20L * i);
        }
        Check.due("21st feed", x.feed(0, 0, 0, 0, 0), -1);
        Check.due("tape", x.count(5), 400);
        // "post 7;" and then bytes of 128 and above, which are none of a text.
        PartyWalls y = new PartyWalls();
        y.feed(0x706f7374, 0x20373bff, -1, 0x80000000, 0);
        Check.due("a byte of 255", y.rule(8), -9);
        Check.due("its place", y.fault(), 7);
        y.feed(0x706f7374, 0x20373b00, 0, 0, 0);
        Check.due("highest byte first", y.rule(7), 1);
    }

    private static void promise7Clauses() {
        PartyWalls x = new PartyWalls();
        Check.due("no text", x.rule(0), 0);
        Check.dueThrows("more than the tape", Check.ARGUMENT, () -> x.rule(1));
        x.feed(0x706f7374, 0x20373b20, 0, 0, 0);
        Check.dueThrows("rule(-1)", Check.ARGUMENT, () -> x.rule(-1));
        Check.dueThrows("rule(21)", Check.ARGUMENT, () -> x.rule(21));
        Check.due("the tape stays by that", x.count(5), 20);
        Check.due("blank at the end", x.rule(8), 1);
        Check.due("the tape is empty", x.count(5), 0);
        Check.dueRule(x, "   ", 0, -1);
        Check.due("clauses", x.count(4), 0);
        Check.dueRule(x, "  post  1  ;  reply2;  ", 2, -1);
        Check.dueRule(x, "hours 0 - 24;hours23-24 ;rest6 0 00;near 0;season 400;", 5, -1);
        Check.dueRule(x, ";", -9, 0);
        Check.due("clauses stay by a fault", x.count(4), 5);
        Check.due("the tape is empty by a fault", x.count(5), 0);
        Check.dueRule(x, "post 1;;", -9, 7);
        Check.dueRule(x, "post 1; 5", -9, 8);
        Check.dueRule(x, "post 1, reply 2;", -9, 6);
        Check.dueRule(x, "post 1 reply 2;", -9, 7);
        Check.dueRule(x, "post 1 ", -9, 7);
        Check.dueRule(x, "post", -9, 4);
        Check.dueRule(x, "pos", -9, 0);
        Check.dueRule(x, "post\t1;", -9, 4);
        Check.dueRule(x, "Post 1;", -9, 0);
    }

    private static void promise7Numbers() {
        PartyWalls x = new PartyWalls();
        for (String word : new String[] {"raise", "cut", "dig", "cover", "post", "reply", "appoint",
                "appeal", "season", "near"}) {
            Check.dueRule(x, word + " 400;", 1, -1);
            Check.dueRule(x, word + " 0;", 1, -1);
            Check.dueRule(x, word + " 401;", -8, word.length() + 1);
            Check.dueRule(x, word + " 401", -8, word.length() + 1);
            Check.dueRule(x, word + " -1;", -9, word.length() + 1);
            Check.dueRule(x, word + " ;", -9, word.length() + 1);
        }
        Check.dueRule(x, "fade 100;", 1, -1);
        Check.dueRule(x, "fade 0;", 1, -1);
        Check.dueRule(x, "fade 101;", -8, 5);
        Check.dueRule(x, "fade x;", -9, 5);
        Check.dueRule(x, "post 000000000000000000004;", 1, -1);
        Check.dueRule(x, "post 4294967297;", -8, 5);
        Check.dueRule(x, "post 18446744073709551617;", -8, 5);
        Check.dueRule(x, "rest 0 1 2 3 4 5 6 6;", 1, -1);
        Check.dueRule(x, "rest 0 12;", -8, 7);
        Check.dueRule(x, "rest 7;", -8, 5);
        Check.dueRule(x, "rest 8;", -8, 5);
        Check.dueRule(x, "rest 0 7;", -8, 7);
        Check.dueRule(x, "rest 0 8;", -8, 7);
        Check.dueRule(x, "rest 10;", -8, 5);
        Check.dueRule(x, "rest;", -9, 4);
        Check.dueRule(x, "rest 1 x;", -9, 7);
        Check.dueRule(x, "rest 1", -9, 6);
        Check.dueRule(x, "hours 8-17;", 1, -1);
        Check.dueRule(x, "hours 9-9;", -8, 8);
        Check.dueRule(x, "hours 9-8;", -8, 8);
        Check.dueRule(x, "hours 9-25;", -8, 8);
        Check.dueRule(x, "hours 24-24;", -8, 9);
        Check.dueRule(x, "hours 25-24;", -8, 6);
        Check.dueRule(x, "hours 9;", -9, 7);
        Check.dueRule(x, "hours 9-;", -9, 8);
        Check.dueRule(x, "hours 9-", -9, 8);
        Check.dueRule(x, "hours -9;", -9, 6);
    }

    private static void promise7Words() {
        PartyWalls x = new PartyWalls();
        Check.dueRule(x, "silence consent;", 1, -1);
        Check.dueRule(x, "silencedispute;", -9, 0);
        Check.dueRule(x, "silence dispute;", 1, -1);
        Check.dueRule(x, "silence  disputes;", -9, 9);
        Check.dueRule(x, "silence 3;", -9, 8);
        Check.dueRule(x, "silence   ", -9, 10);
        for (String word : new String[] {"if", "consent", "dispute", "or", "and", "not", "depth", "close",
                "height", "posts", "raised", "x", "xost", "hire", "postz", "zpost", "pos", "os"}) {
            Check.dueRule(x, " " + word + " 1;", -9, 1);
        }
        Check.dueRule(x, "raise5if depth<3;", 1, -1);
        Check.dueRule(x, "raise 5 ifdepth<3;", -9, 8);
        Check.dueRule(x, "raise 5 and depth<3;", -9, 8);
        Check.dueRule(x, "raise 5 i", -9, 8);
        Check.dueRule(x, "post 5 if depth<3;", -9, 7);
    }

    private static void promise7Conditions() {
        PartyWalls x = new PartyWalls();
        Check.dueRule(x, "cut 5 if ( not(depth<3)or close > 9999 ) and height<0 ;", 1, -1);
        Check.dueRule(x, "cut 5 if depth<10000;", -8, 15);
        Check.dueRule(x, "cut 5 if depth<10000x", -8, 15);
        Check.dueRule(x, "cut 5 if depth 3;", -9, 15);
        Check.dueRule(x, "cut 5 if depth<>3;", -9, 15);
        Check.dueRule(x, "cut 5 if depth;", -9, 14);
        Check.dueRule(x, "cut 5 if depth and close<3;", -9, 15);
        Check.dueRule(x, "cut 5 if width<3;", -9, 9);
        Check.dueRule(x, "cut 5 if 3<depth;", -9, 9);
        Check.dueRule(x, "cut 5 if if;", -9, 9);
        Check.dueRule(x, "cut 5 if (depth<3;", -9, 17);
        Check.dueRule(x, "cut 5 if depth<3);", -9, 16);
        Check.dueRule(x, "cut 5 if ();", -9, 10);
        Check.dueRule(x, "cut 5 if not;", -9, 12);
        Check.dueRule(x, "cut 5 if depth<3 and;", -9, 20);
        Check.dueRule(x, "cut 5 if depth<3 and or close<3;", -9, 21);
        Check.dueRule(x, "cut 5 if depth<3 not close<3;", -9, 17);
        Check.dueRule(x, "cut 5 if depth<3 orclose<3;", -9, 17);
        Check.dueRule(x, "cut 5 if depth<3or close<3;", 1, -1);
        Check.dueRule(x, "cut 5 if depth<3 if close<3;", -9, 17);
        Check.dueRule(x, "cut 5 if depth<", -9, 15);
    }

    private static void promise7Limits() {
        PartyWalls x = new PartyWalls();
        String twenty = "near 1;".repeat(20);
        Check.dueRule(x, twenty, 20, -1);
        Check.dueRule(x, twenty + "  ", 20, -1);
        Check.dueRule(x, twenty + " near 999;", -7, 141);
        Check.dueRule(x, twenty + "near", -7, 140);
        Check.dueRule(x, twenty + "nea", -9, 140);
        Check.dueRule(x, twenty + ";", -9, 140);
        Check.dueRule(x, "dig 1 if " + "not ".repeat(8) + "depth<1;", 1, -1);
        Check.dueRule(x, "dig 1 if " + "not ".repeat(9) + "depth<1;", -7, 41);
        Check.dueRule(x, "dig 1 if " + "(".repeat(8) + "depth<1" + ")".repeat(8) + ";", 1, -1);
        Check.dueRule(x, "dig 1 if " + "(".repeat(9) + "depth<1" + ")".repeat(9) + ";", -7, 17);
        Check.dueRule(x, "dig 1 if " + "(not ".repeat(4) + "depth<1" + ")".repeat(4) + ";", 1, -1);
        Check.dueRule(x, "dig 1 if " + "(not ".repeat(4) + "(depth<1", -7, 29);
        Check.dueRule(x, "dig 1 if " + "(not ".repeat(4) + "not depth<1", -7, 29);
        // A not ends with its B, so that those in a row do not add up.
        Check.dueRule(x, "dig 1 if " + "not depth<1 and ".repeat(12) + "(not close<1);", 1, -1);
        Check.dueRule(x, "dig 1 if " + "(".repeat(7) + "not depth<1 or not close<1 and (height<1)"
                + ")".repeat(7) + ";", 1, -1);
    }

    private static void promise7LastCounts() {
        PartyWalls x = Check.withWall(2, "rest 0 1;rest 6;dig 5;dig 9 if depth > 3;post 1;post 2;"
                + "cut 3 if depth>3;cut 4;reply 1;reply 2;hours 1-2;hours 3-4;silence consent;silence dispute;");
        Check.due("rest: the last", x.counted(5, 1), 7);
        Check.due("dig, deep", x.work(0, 0, 2, 4, 0, 0), 0);
        Check.due("dig, shallow", x.work(0, 0, 2, 3, 0, 0), 1);
        Check.due("cut, shallow", x.work(0, 0, 1, 3, 0, 0), 2);
        Check.due("deep", x.state(0), 0);
        Check.due("shallow", x.state(1), 1);
        Check.due("cut", x.state(2), 0);
        Check.due("post: the last", x.notice(0), 2);
        Check.due("reply: the last", x.told(0, 5), 4);
        Check.due("hours: the last", x.told(0, 2) * 100 + x.told(0, 3), 304);
        x.wait(5);
        Check.due("silence: the last", x.state(0), 4);
        // A new RULE has nothing of the one ahead.
        Check.dueRule(x, "post 4;", 1, -1);
        Check.due("no rest any more", x.counted(5, 1), 6);
        Check.due("dig", x.work(0, 0, 2, 3, 0, 0), 3);
        Check.due("dig always", x.state(3), 0);
        Check.due("hours 8-17", x.told(3, 2) * 100 + x.told(3, 3), 817);
        Check.due("post 4", x.notice(3), 9);
        Check.due("reply 14", x.told(3, 5), 23);
        x.wait(4);
        Check.due("consent", x.answer(3, true), 1);
        Check.due("dig 30", x.told(3, 0), 39);
    }

    /** What stands on the TAPE behind the first n bytes is none of the text. */
    private static void promise7FirstBytes() {
        String text = "post 40;dig 3 if depth<4;";
        int[] places = {-1, 0, 0, 0, 4, 5, 6, 7, -1, 8, 8, 11, 12, 13, 14, 14, 16, 17, 17, 17, 17, 17, 22, 23, 24, -1};
        for (int n = 0; n <= text.length(); n++) {
            PartyWalls x = new PartyWalls();
            Check.rule(x, text);
            Check.due("whole", x.fault(), -1);
            x.feed(0x706f7374, 0x2034303b, 0x64696720, 0x33206966, 0x20646570);
            x.feed(0x74683c34, 0x3b3b3b3b, 0, 0, 0);
            int clauses = n < 8 ? 0 : n < 25 ? 1 : 2;
            Check.due("first " + n, x.rule(n), places[n] < 0 ? clauses : -9);
            Check.due("place of the first " + n, x.fault(), places[n]);
        }
    }

    private static void promise7WholeTape() {
        for (String last : new String[] {"post", "pos", "silence consent", "silence conse", "post 40", "dig 1 if",
                ";"}) {
            String text = " ".repeat(400 - last.length()) + last;
            int word = 400 - last.length() + last.lastIndexOf(' ') + 1;
            boolean stands = !last.equals("pos") && !last.equals("silence conse") && !last.equals(";");
            Check.dueRule(new PartyWalls(), text, -9, stands ? 400 : word);
        }
        Check.dueRule(new PartyWalls(), " ".repeat(393) + "post 9;", 1, -1);
        Check.dueRule(new PartyWalls(), " ".repeat(400), 0, -1);
        // As many steps of a condition as a TAPE holds, and their last one counts.
        String text = "dig 1 if depth<1" + "or depth<1".repeat(37) + "or depth>1" + ";";
        PartyWalls x = Check.withWall(2, text);
        x.work(0, 0, 2, 0, 0, 0);
        x.work(0, 0, 2, 1, 0, 0);
        x.work(0, 0, 2, 2, 0, 0);
        Check.due("by the first", x.state(0), 0);
        Check.due("by none", x.state(1), 1);
        Check.due("by the last", x.state(2), 0);
    }

    private static void promise7Without() {
        PartyWalls x = Check.withWall(2, "");
        for (int sort = 0; sort < 4; sort++) {
            x.work(0, 0, sort, 0, 0, 0);
            Check.due("post 0", x.notice(sort), 0);
            Check.due("reply 14", x.told(sort, 5), 14);
            x.answer(sort, true);
            Check.due("30 days of notice", x.told(sort, 0), 30);
        }
        x.work(0, 0, 0, 0, 0, 0);
        x.notice(4);
        x.wait(15);
        Check.due("silence dispute", x.told(4, 1), 15);
        x.surveyor(0);
        x.surveyor(0);
        x.appoint(4, 0, 0, 0);
        x.wait(10);
        Check.due("appoint 10", x.appoint(4, 1, 1, 0), -3);
        x.wait(1);
        Check.due("behind 10", x.appoint(4, 1, 1, 0), 1);
        x.propose(4, 0, 26, 817, 0);
        x.propose(4, 1, 26, 817, 0);
        Check.due("appeal 14", x.told(4, 6), 40);
    }

    private static void promise8() {
        PartyWalls x = new PartyWalls();
        Check.due("without", x.fault(), -1);
        Check.dueRule(x, "post x;", -9, 5);
        Check.dueThrows("rule(1)", Check.ARGUMENT, () -> x.rule(1));
        Check.due("by none such it stays", x.fault(), 5);
        Check.dueRule(x, "near 401;", -8, 5);
        Check.dueRule(x, "near 400;", 1, -1);
    }

    private static void promise9() {
        PartyWalls x = new PartyWalls();
        Check.due("no rule", x.counted(3, 400), 403);
        Check.dueRule(x, "rest 0 6;", 1, -1);
        Check.due("0 days, day of rest", x.counted(6, 0), 6);
        Check.due("1 day from rest", x.counted(6, 1), 8);
        Check.due("1 day, Friday", x.counted(5, 1), 8);
        Check.due("5 days", x.counted(0, 5), 5);
        Check.due("6 days", x.counted(0, 6), 8);
        Check.due("400 days", x.counted(0, 400), 560 - 2);
        Check.due("from the last day", x.counted(1_000_000, 1), 1_000_001);
        Check.dueThrows("day -1", Check.ARGUMENT, () -> x.counted(-1, 1));
        Check.dueThrows("day beyond", Check.ARGUMENT, () -> x.counted(1_000_001, 1));
        Check.dueThrows("days -1", Check.ARGUMENT, () -> x.counted(0, -1));
        Check.dueThrows("days 401", Check.ARGUMENT, () -> x.counted(0, 401));
        Check.dueRule(x, "rest 0 1 2 3 5 6;", 1, -1);
        Check.due("one day a week", x.counted(4, 400), 4 + 2_800);
        Check.dueRule(x, "rest 0 1 2 3 4 5 6;", 1, -1);
        Check.due("all rest, 0 days", x.counted(9, 0), 9);
        Check.dueThrows("all rest", Check.STATE, () -> x.counted(9, 1));
        Check.dueThrows("all rest, none such", Check.ARGUMENT, () -> x.counted(-9, 1));
    }

    private static void promise44() {
        PartyWalls x = Check.withWall(2, "raise 1 if height > 5;post 0;");
        x.wall(1, 0);
        for (int i = 0; i < 3; i++) {
            x.work(0, 0, 0, 0, 0, 0);
        }
        x.wait(17);
        x.feed(0, 0, 0, 0, 0);
        for (int i = 0; i < 5; i++) {
            x.hand(0);
        }
        for (int i = 0; i < 6; i++) {
            x.survey(0);
        }
        for (int i = 0; i < 7; i++) {
            x.surveyor(0);
        }
        x.begin(0);
        for (int i = 0; i < 8; i++) {
            x.enter(0, 0);
        }
        for (int i = 0; i < 9; i++) {
            x.gauge();
        }
        for (int i = 0; i < 10; i++) {
            x.mend(i % 2, i);
        }
        int[] want = {2, 2, 3, 17, 2, 20, 5, 6, 7, 8, 9, 10};
        for (int what = 0; what < want.length; what++) {
            Check.due("count " + what, x.count(what), want[what]);
        }
        Check.due("count -1", x.count(-1), -1);
        Check.due("count 12", x.count(12), -1);
        Check.due("count most", x.count(Integer.MAX_VALUE), -1);
    }
}
