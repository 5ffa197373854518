/** Promises 24 to 33: CELLS and their use, costs, SECURITY, the BOOK in two times. */
public final class CellsTest {
    public static void main(String[] args) {
        promise24();
        promise24Refused();
        promise25();
        promise26();
        promise26Fade();
        promise26Full();
        promise27();
        promise28();
        promise28Full();
        promise29();
        promise30();
        promise30Full();
        promise31();
        promise32();
        promise33();
        Check.end();
    }

    /** An object with WORKS 0 (of SIDE 0) and 1 (of SIDE 1) to raise WALL 0, both BEGUN. */
    private static PartyWalls building(int owners, String text) {
        PartyWalls x = Check.withWall(owners, "raise 0 if depth>0;" + text);
        for (int side = 0; side < 2; side++) {
            x.begin(x.work(0, side, 0, 0, 0, 0));
        }
        return x;
    }

    private static void duePayment(PartyWalls x, int payment, int... want) {
        for (int what = 0; what < 4; what++) {
            Check.due("payment " + payment + ", " + what, x.payment(payment, what), want[what]);
        }
    }

    private static void fillBook(PartyWalls x) {
        for (int i = x.count(9); i < 300; i++) {
            x.enter(0, 0);
        }
    }

    private static void promise24() {
        PartyWalls x = building(2, "");
        x.wall(1, 0);
        Check.due("one cell", x.build(0, 3, 3, 1, 7), 1);
        Check.due("on three", x.build(1, 2, 4, 2, 0), 7);
        Check.due("on all", x.build(0, 0, 11, 17, 100_000), 7 + 12 * 17);
        Check.due("whose is 0", x.cell(0, 3, 0, 0), 0);
        Check.due("whose is 1", x.cell(0, 3, 1, 0), 1);
        Check.due("whose is 3", x.cell(0, 3, 3, 0), 0);
        Check.due("a 21st on one of three", x.build(0, 2, 4, 1, 7), -2);
        Check.due("nothing was built", x.cell(0, 2, 19, 0), -1);
        Check.due("up to 20", x.build(0, 2, 2, 1, 7), 212);
        Check.due("20 at once", x.build(0, 0, 0, 20, 7), -2);
        Check.due("no payment", x.count(9), 0);
        Check.due("on the other wall", x.cell(1, 0, 0, 0), -1);
        int other = x.work(1, 1, 0, 0, 0, 0);
        x.begin(other);
        Check.due("the other wall's alone", x.build(other, 0, 0, 20, 7), 20);
    }

    private static void promise24Refused() {
        PartyWalls x = building(2, "cut 0 if depth>0;");
        x.work(0, 0, 0, 1, 0, 0);
        x.work(0, 0, 1, 0, 0, 0);
        x.begin(3);
        Check.due("planned", x.build(2, 0, 0, 1, 7), -1);
        Check.due("to cut", x.build(3, 0, 0, 1, 7), -1);
        x.build(0, 0, 0, 20, 7);
        Check.due("planned and full", x.build(2, 0, 0, 1, 7), -1);
        x.done(1);
        Check.due("done", x.build(1, 1, 1, 1, 7), -1);
        Check.dueThrows("no work", Check.INDEX, () -> x.build(4, 0, 12, 1, 7));
        Check.dueThrows("work -1", Check.INDEX, () -> x.build(-1, 0, 0, 1, 7));
        Check.dueThrows("from -1", Check.ARGUMENT, () -> x.build(0, -1, 0, 1, 7));
        Check.dueThrows("to 12", Check.ARGUMENT, () -> x.build(0, 0, 12, 1, 7));
        Check.dueThrows("to below from", Check.ARGUMENT, () -> x.build(0, 2, 1, 1, 7));
        Check.dueThrows("no cells", Check.ARGUMENT, () -> x.build(2, 0, 0, 0, 7));
        Check.dueThrows("21 cells", Check.ARGUMENT, () -> x.build(0, 0, 0, 21, 7));
        Check.dueThrows("cost -1", Check.ARGUMENT, () -> x.build(0, 0, 0, 1, -1));
        Check.dueThrows("cost", Check.ARGUMENT, () -> x.build(0, 0, 0, 1, 100_001));
    }

    private static void promise25() {
        PartyWalls x = building(2, "");
        Check.due("of none", x.lower(0, 0, 11), 0);
        x.build(0, 1, 3, 1, 9);
        x.build(1, 2, 2, 1, 8);
        Check.due("of three", x.lower(0, 0, 11), 3);
        Check.due("the highest is off", x.cell(0, 2, 1, 0), -1);
        Check.due("the lowest stays", x.cell(0, 2, 0, 0), 0);
        Check.due("of one", x.lower(0, 2, 2), 1);
        Check.due("of none again", x.lower(0, 1, 3), 0);
        Check.due("built anew", x.build(1, 2, 2, 1, 8), 1);
        Check.due("by another side", x.cell(0, 2, 0, 0), 1);
        Check.due("used by it alone", x.cell(0, 2, 0, 2), 2);
        Check.dueThrows("no wall", Check.INDEX, () -> x.lower(1, 0, 12));
        Check.dueThrows("wall -1", Check.INDEX, () -> x.lower(-1, 0, 0));
        Check.dueThrows("from -1", Check.ARGUMENT, () -> x.lower(0, -1, 0));
        Check.dueThrows("to 12", Check.ARGUMENT, () -> x.lower(0, 0, 12));
        Check.dueThrows("to below from", Check.ARGUMENT, () -> x.lower(0, 1, 0));
    }

    private static void promise26() {
        PartyWalls x = building(4, "");
        x.build(0, 2, 4, 2, 101);
        x.build(1, 3, 3, 1, 60);
        x.build(0, 3, 3, 1, 7);
        Check.due("nothing there", x.use(0, 1, 0, 1, 20), 0);
        Check.due("below 0", x.use(0, 1, 0, 11, 0), 0);
        Check.due("its own and the other's", x.use(0, 0, 0, 11, 20), 30);
        duePayment(x, 0, 0, 1, 30, 0);
        x.sell(0, 0, 2);
        x.sell(0, 1, 3);
        x.wait(3);
        Check.due("each half is cut", x.use(0, 1, 2, 3, 1), 100);
        duePayment(x, 1, 3, 2, 100, 3);
        Check.due("the rest", x.use(0, 1, 0, 11, 4), 50 + 50 + 100 + 3);
        Check.due("never twice", x.use(0, 1, 0, 11, 20), 0);
        Check.due("payments", x.count(9), 3);
        x.build(0, 2, 2, 1, 1);
        Check.due("half of 1", x.use(0, 1, 0, 11, 20), 0);
        Check.due("used so", x.cell(0, 2, 2, 2), 3);
        Check.due("none of 0 is written", x.count(9), 3);
        Check.dueThrows("no wall", Check.INDEX, () -> x.use(1, 2, 0, 0, 0));
        Check.dueThrows("side 2", Check.ARGUMENT, () -> x.use(0, 2, 0, 0, 0));
        Check.dueThrows("side -1", Check.ARGUMENT, () -> x.use(0, -1, 0, 0, 0));
        Check.dueThrows("from -1", Check.ARGUMENT, () -> x.use(0, 0, -1, 0, 0));
        Check.dueThrows("to 12", Check.ARGUMENT, () -> x.use(0, 0, 0, 12, 0));
        Check.dueThrows("to below from", Check.ARGUMENT, () -> x.use(0, 0, 5, 4, 0));
        Check.dueThrows("height -1", Check.ARGUMENT, () -> x.use(0, 0, 0, 0, -1));
        Check.dueThrows("height 21", Check.ARGUMENT, () -> x.use(0, 0, 0, 0, 21));
        PartyWalls y = building(2, "");
        y.sell(0, 1, 0);
        y.build(0, 0, 0, 1, 8);
        Check.due("to itself", y.use(0, 1, 0, 0, 1), 4);
        duePayment(y, 0, 0, 0, 4, 0);
        Check.due("balance of itself", y.balance(0, 0, 0), 0);
    }

    private static void promise26Fade() {
        PartyWalls x = building(2, "fade 30;");
        x.wait(300);
        x.build(0, 0, 0, 3, 99);
        x.build(0, 1, 1, 1, 100_000);
        x.wait(364);
        Check.due("a day ahead of a year", x.cell(0, 0, 0, 1), 99);
        x.wait(1);
        Check.due("a year, cut", x.cell(0, 0, 0, 1), 69);
        Check.due("half of it, cut", x.use(0, 1, 0, 0, 1), 34);
        Check.rule(x, "fade 1;");
        Check.due("by the rule now", x.cell(0, 0, 0, 1), 98);
        Check.rule(x, "fade 30;");
        x.wait(365 * 2);
        Check.due("three years", x.cell(0, 0, 0, 1), 9);
        x.wait(365);
        Check.due("0 at least", x.cell(0, 0, 0, 1), 0);
        Check.due("0 at least of the most", x.cell(0, 1, 0, 1), 0);
        Check.due("of no value", x.use(0, 1, 0, 0, 2), 0);
        Check.due("it is used so far", x.cell(0, 0, 1, 2), 3);
        Check.due("and one above not", x.cell(0, 0, 2, 2), 1);
        Check.rule(x, "");
        Check.due("not paid later", x.use(0, 1, 0, 0, 2), 0);
        Check.due("the one above", x.use(0, 1, 0, 0, 3), 49);
    }

    private static void promise26Full() {
        PartyWalls x = building(2, "");
        x.build(0, 0, 0, 1, 2);
        x.build(0, 0, 0, 1, 1);
        x.build(1, 1, 1, 1, 1);
        fillBook(x);
        Check.due("the book is full", x.use(0, 1, 0, 0, 20), -1);
        Check.due("nothing changes", x.cell(0, 0, 1, 2), 1);
        Check.due("nothing to pay", x.use(0, 0, 0, 11, 20), 0);
        Check.due("used so", x.cell(0, 1, 0, 2), 3);
        Check.due("payments", x.count(9), 300);
    }

    private static void promise27() {
        PartyWalls x = building(2, "");
        x.build(1, 11, 11, 2, 5);
        Check.due("side", x.cell(0, 11, 1, 0), 1);
        Check.due("value", x.cell(0, 11, 1, 1), 5);
        Check.due("users", x.cell(0, 11, 1, 2), 2);
        for (int what = 0; what < 3; what++) {
            Check.due("above", x.cell(0, 11, 2, what), -1);
            Check.due("below", x.cell(0, 11, -1, what), -1);
            Check.due("far above", x.cell(0, 0, 20, what), -1);
            Check.due("most", x.cell(0, 0, Integer.MAX_VALUE, what), -1);
        }
        Check.dueThrows("no wall", Check.INDEX, () -> x.cell(1, 0, 0, 3));
        Check.dueThrows("segment 12", Check.ARGUMENT, () -> x.cell(0, 12, 0, 0));
        Check.dueThrows("segment -1", Check.ARGUMENT, () -> x.cell(0, -1, 0, 0));
        Check.dueThrows("what 3", Check.ARGUMENT, () -> x.cell(0, 11, 0, 3));
        Check.dueThrows("what -1, no cell", Check.ARGUMENT, () -> x.cell(0, 11, 7, -1));
    }

    /** WORK 0 of SIDE 1 is AWARDED with a SHARE, and BEGUN. */
    private static PartyWalls shared(int share) {
        PartyWalls x = Check.withWall(4, "");
        x.work(0, 1, 0, 0, 0, 0);
        x.notice(0);
        x.answer(0, false);
        for (int side = 0; side < 2; side++) {
            x.appoint(0, side, x.surveyor(0), side);
        }
        for (int side = 0; side < 2; side++) {
            x.propose(0, side, 0, 817, share);
        }
        x.begin(0);
        return x;
    }

    private static void promise28() {
        PartyWalls x = shared(67);
        Check.due("33 of 100, cut", x.spend(0, 199), 65);
        duePayment(x, 0, 0, 1, 65, 0);
        Check.due("of the most", x.spend(0, 1_000_000), 330_000);
        Check.due("of 3", x.spend(0, 3), 0);
        Check.due("of 0", x.spend(0, 0), 0);
        Check.due("none of 0 is written", x.count(9), 2);
        x.done(0);
        x.sell(0, 0, 2);
        x.sell(0, 1, 3);
        Check.due("done", x.spend(0, 100), 33);
        duePayment(x, 2, 2, 3, 33, 0);
        Check.due("all", shared(0).spend(0, 1_000_000), 1_000_000);
        Check.due("none", shared(100).spend(0, 1_000_000), 0);
        PartyWalls y = building(2, "");
        Check.due("not awarded", y.spend(0, 1_000_000), 0);
        y.work(0, 0, 0, 1, 0, 0);
        Check.due("planned", y.spend(2, 5), -1);
        y.begin(2);
        Check.due("void", y.spend(2, 5), -1);
        Check.dueThrows("sum -1", Check.ARGUMENT, () -> y.spend(2, -1));
        Check.dueThrows("sum", Check.ARGUMENT, () -> y.spend(0, 1_000_001));
        Check.dueThrows("no work", Check.INDEX, () -> y.spend(3, -1));
    }

    private static void promise28Full() {
        PartyWalls x = shared(50);
        fillBook(x);
        Check.due("the book is full", x.spend(0, 2), -2);
        Check.due("he would not pay", x.spend(0, 1), 0);
    }

    private static void promise29() {
        PartyWalls x = Check.withWall(2, "");
        x.work(0, 0, 0, 0, 0, 0);
        x.work(0, 0, 0, 0, 0, 0);
        Check.dueThrows("sum 0", Check.ARGUMENT, () -> x.secure(0, 0));
        Check.dueThrows("sum", Check.ARGUMENT, () -> x.secure(0, 1_000_001));
        Check.dueThrows("no work", Check.INDEX, () -> x.secure(2, 0));
        Check.due("held", x.secure(0, 1), 1);
        Check.due("it was", x.secure(0, 1), -1);
        Check.dueThrows("it was, sum 0", Check.ARGUMENT, () -> x.secure(0, 0));
        Check.due("the most", x.secure(1, 1_000_000), 1);
        Check.due("no payment", x.count(9), 0);
        x.begin(0);
        x.settle(0, 0);
        Check.due("settled, it was", x.secure(0, 1), -1);
    }

    private static void promise30() {
        PartyWalls x = building(4, "");
        Check.due("begun", x.settle(0, 5), -1);
        x.secure(0, 100);
        Check.due("begun, held", x.settle(0, 5), -1);
        x.done(0);
        x.done(1);
        Check.due("none held", x.settle(1, 5), -2);
        x.sell(0, 0, 2);
        x.sell(0, 1, 3);
        Check.due("as far as it goes", x.settle(0, 101), 100);
        duePayment(x, 0, 2, 3, 100, 0);
        Check.due("settled", x.settle(0, 101), -2);
        x.secure(1, 100);
        Check.due("held when done, a part", x.settle(1, 99), 99);
        duePayment(x, 1, 3, 2, 99, 0);
        x.work(0, 1, 0, 1, 0, 0);
        x.begin(2);
        Check.due("void, none held", x.settle(2, 0), -2);
        x.secure(2, 50);
        Check.due("void, of 0", x.settle(2, 0), 0);
        Check.due("none of 0 is written", x.count(9), 2);
        Check.due("settled by 0", x.settle(2, 50), -2);
        Check.dueThrows("damage -1", Check.ARGUMENT, () -> x.settle(2, -1));
        Check.dueThrows("damage", Check.ARGUMENT, () -> x.settle(2, 1_000_001));
        Check.dueThrows("no work", Check.INDEX, () -> x.settle(3, -1));
    }

    private static void promise30Full() {
        PartyWalls x = building(2, "");
        x.secure(0, 100);
        x.secure(1, 100);
        fillBook(x);
        x.done(0);
        x.done(1);
        Check.due("the book is full", x.settle(0, 1), -3);
        Check.due("not settled by that", x.settle(0, 0), 0);
        Check.due("settled", x.settle(0, 1), -2);
    }

    private static void promise31() {
        PartyWalls x = building(2, "");
        x.enter(0, 0);
        x.enter(0, 0);
        Check.due("first", x.mend(0, 0), 10);
        Check.due("second", x.mend(0, 1_000_000_000), 0);
        Check.due("the other", x.mend(1, 3), 10);
        Check.dueThrows("sum -1", Check.ARGUMENT, () -> x.mend(0, -1));
        Check.dueThrows("sum", Check.ARGUMENT, () -> x.mend(0, 1_000_000_001));
        Check.dueThrows("no payment", Check.INDEX, () -> x.mend(2, -1));
        Check.dueThrows("payment -1", Check.INDEX, () -> x.mend(-1, 0));
        Check.due("third", x.mend(0, 7), 1_000_000_000);
        for (int i = 4; i < 60; i++) {
            Check.due("mended", x.mend(1, i), i == 4 ? 3 : i - 1);
        }
        Check.due("61st", x.mend(0, 5), -1);
        Check.due("nothing changes", x.payment(0, 2), 7);
        Check.dueThrows("61st, sum -1", Check.ARGUMENT, () -> x.mend(0, -1));
        Check.due("how often", x.count(11), 60);
    }

    private static void promise32() {
        PartyWalls x = building(2, "");
        Check.dueThrows("none yet", Check.INDEX, () -> x.payment(0, 0));
        x.wait(4);
        x.enter(1, 0);
        duePayment(x, 0, 1, 0, 10, 4);
        x.wait(1);
        x.mend(0, 12);
        duePayment(x, 0, 1, 0, 12, 4);
        x.sell(0, 1, 0);
        duePayment(x, 0, 1, 0, 12, 4);
        Check.dueThrows("payment 1", Check.INDEX, () -> x.payment(1, 4));
        Check.dueThrows("payment -1", Check.INDEX, () -> x.payment(-1, 0));
        Check.dueThrows("what 4", Check.ARGUMENT, () -> x.payment(0, 4));
        Check.dueThrows("what -1", Check.ARGUMENT, () -> x.payment(0, -1));
    }

    private static void promise33() {
        PartyWalls x = building(3, "");
        x.wait(2);
        x.enter(0, 0);
        x.wait(2);
        x.enter(1, 0);
        x.enter(1, 0);
        x.wait(2);
        x.mend(0, 1);
        x.mend(0, 2);
        x.wait(2);
        x.mend(0, 1_000_000_000);
        x.mend(1, 1_000_000_000);
        x.mend(2, 1_000_000_000);
        int far = Integer.MAX_VALUE;
        Check.due("day 1", x.balance(0, 1, far), 0);
        Check.due("day 2 as known then", x.balance(0, 2, 2), -10);
        Check.due("day 2 as known on 5", x.balance(0, 2, 5), -10);
        Check.due("day 2 as known on 6", x.balance(0, 2, 6), -2);
        Check.due("day 2 as known on 7", x.balance(0, 2, 7), -2);
        Check.due("day 2 as known on 8", x.balance(0, 2, 8), -1_000_000_000L);
        Check.due("day 4 as known on 3", x.balance(0, 4, 3), -10);
        Check.due("day 4 as known on 4", x.balance(0, 4, 4), 10);
        Check.due("day 3 as known on 9", x.balance(1, 3, 9), 1_000_000_000L);
        Check.due("all", x.balance(1, far, far), -1_000_000_000L);
        Check.due("known on none", x.balance(0, far, -1), 0);
        Check.due("day least", x.balance(0, Integer.MIN_VALUE, far), 0);
        Check.due("of another", x.balance(2, far, far), 0);
        Check.dueThrows("no owner", Check.INDEX, () -> x.balance(3, 0, 0));
        Check.dueThrows("owner -1", Check.INDEX, () -> x.balance(-1, 0, 0));
        PartyWalls full = building(2, "");
        fillBook(full);
        Check.due("of a full book", full.balance(0, 0, 0), -3_000);
        // Above what an int holds.
        x.enter(0, 0);
        x.enter(0, 0);
        x.mend(3, 1_000_000_000);
        x.mend(4, 1_000_000_000);
        x.mend(1, 0);
        x.mend(2, 0);
        Check.due("three thousand million", x.balance(0, 8, 8), -3_000_000_000L);
    }
}
