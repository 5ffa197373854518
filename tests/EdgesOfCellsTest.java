/** Each sentence on CELLS, their use, costs, SECURITY and the BOOK (promises 24 to 33) that names an edge. */
public final class EdgesOfCellsTest {
    private static final int FULL = 300;

    public static void main(String[] args) {
        build();
        buildRefused();
        lower();
        use();
        useOfNothing();
        useAndBook();
        value();
        cell();
        spend();
        secure();
        settle();
        settleRefused();
        ownersThen();
        mend();
        payment();
        balance();
        bookOfTwoTimes();
        Check.end();
    }

    /** WORKS 0 (of SIDE 0) and 1 (of SIDE 1) to raise WALL 0 are BEGUN; each costs 10 when ENTERED at 0. */
    private static PartyWalls building(int owners, String text) {
        PartyWalls x = Check.withWall(owners, "raise 0 if depth>0;" + text);
        for (int side = 0; side < 2; side++) {
            x.begin(x.work(0, side, 0, 0, 0, 0));
        }
        return x;
    }

    /** WORK 0, of SIDE 1, is AWARDED with a SHARE, and BEGUN. */
    private static PartyWalls shared(int share) {
        PartyWalls x = Check.withWall(4, "");
        x.work(0, 1, 0, 0, 0, 0);
        x.notice(0);
        x.answer(0, false);
        for (int side = 0; side < 2; side++) {
            x.appoint(0, side, x.surveyor(0), side);
        }
        for (int side = 0; side < 2; side++) {
            x.propose(0, side, 0, 817, share);
        }
        x.begin(0);
        return x;
    }

    private static void fillBook(PartyWalls x) {
        for (int i = x.count(9); i < FULL; i++) {
            x.enter(0, 0);
        }
        Check.due("set up", x.count(9), FULL);
    }

    private static void duePayment(PartyWalls x, int payment, int... want) {
        Check.due("payments", x.count(9), payment + 1);
        for (int what = 0; what < want.length; what++) {
            Check.due("payment " + payment + ", " + what, x.payment(payment, what), want[what]);
        }
    }

    private static void build() {
        Check.sentence("Terms 1: each of CELLS one upon another, 20 at most (none at first)", () -> {
            PartyWalls x = building(2, "");
            for (int segment = 0; segment < 12; segment++) {
                Check.due("none at first", x.cell(0, segment, 0, 0), -1);
            }
            for (int i = 1; i <= 20; i++) {
                Check.due("one upon another", x.build(i % 2, 4, 4, 1, i), i);
                Check.due("by whom", x.cell(0, 4, i - 1, 0), i % 2);
                Check.due("at what cost", x.cell(0, 4, i - 1, 1), i);
            }
            Check.due("the lowest is the first", x.cell(0, 4, 0, 1), 1);
        });
        Check.sentence("Promise 24: how many there are on the WALL", () -> {
            PartyWalls x = building(2, "");
            Check.due("on all", x.build(0, 0, 11, 20, 1), 240);
            x.lower(0, 3, 5);
            Check.due("of both sides", x.build(1, 4, 4, 1, 1), 238);
            x.wall(1, 0);
            x.begin(x.work(1, 0, 0, 0, 0, 0));
            Check.due("on the other wall", x.build(2, 7, 8, 3, 1), 6);
        });
        Check.sentence("Promise 24: -2: a SEGMENT would have more than 20.", () -> {
            PartyWalls x = building(2, "");
            x.build(0, 5, 5, 1, 7);
            Check.due("one of three", x.build(0, 4, 6, 20, 7), -2);
            Check.due("the first of two", x.build(0, 5, 6, 20, 7), -2);
            Check.due("the last of two", x.build(0, 4, 5, 20, 7), -2);
            Check.due("nothing is built", x.cell(0, 4, 0, 0) + x.cell(0, 6, 0, 0), -2);
            Check.due("nor upon it", x.cell(0, 5, 1, 0), -1);
            Check.due("20", x.build(0, 5, 5, 19, 7), 20);
            Check.due("a 21st", x.build(1, 5, 5, 1, 7), -2);
            x.lower(0, 5, 5);
            Check.due("a 20th again", x.build(1, 5, 5, 1, 7), 20);
        });
        Check.sentence("Terms 3: Its SIDE USES them.", () -> {
            PartyWalls x = building(2, "");
            x.build(0, 0, 0, 1, 8);
            x.build(1, 0, 0, 1, 8);
            Check.due("of side 0", x.cell(0, 0, 0, 2), 1);
            Check.due("of side 1", x.cell(0, 0, 1, 2), 2);
            Check.due("no payment", x.count(9), 0);
        });
    }

    private static void buildRefused() {
        Check.sentence("Promise 24: -1: the WORK is not BEGUN, or not to raise;", () -> {
            PartyWalls x = Check.withWall(2, "raise 5 if depth>0;cut 0 if depth>0;dig 0 if depth>0;"
                    + "cover 0 if depth>0;");
            for (int sort = 0; sort < 4; sort++) {
                x.work(0, 0, sort, 0, 0, 0);
                Check.due("free, sort " + sort, x.build(sort, 0, 0, 1, 1), -1);
                x.begin(sort);
                Check.due("begun, sort " + sort, x.build(sort, 0, 0, 1, 1), sort == 0 ? 1 : -1);
            }
            x.done(0);
            Check.due("done", x.build(0, 0, 0, 1, 1), -1);
            int planned = x.work(0, 0, 0, 1, 0, 0);
            Check.due("planned", x.build(planned, 0, 0, 1, 1), -1);
            Check.due("-1 ahead of -2", x.build(planned, 0, 0, 20, 1), -1);
            x.notice(planned);
            Check.due("asked", x.build(planned, 0, 0, 1, 1), -1);
            x.answer(planned, true);
            Check.due("allowed", x.build(planned, 0, 0, 1, 1), -1);
            x.begin(planned);
            Check.due("void", x.build(planned, 0, 0, 1, 1), -1);
            Check.due("nothing is built", x.cell(0, 0, 1, 0), -1);
        });
        Check.sentence("Promise 24: no such SEGMENTS (the second below the first, too)", () -> {
            Check.dueRange("from", 0, 11, from -> building(2, "").build(0, from, 11, 1, 1));
            Check.dueRange("to", 0, 11, to -> building(2, "").build(0, 0, to, 1, 1));
            Check.dueRange("to, from 7 on", 7, 11, to -> building(2, "").build(0, 7, to, 1, 1));
            PartyWalls x = building(2, "");
            x.done(0);
            Check.dueThrows("of one that is done", Check.ARGUMENT, () -> x.build(0, 1, 0, 1, 1));
        });
        Check.sentence("Promise 24: CELLS are not 1 to 20,", () -> {
            Check.dueRange("cells", 1, 20, cells -> building(2, "").build(0, 0, 0, cells, 1));
            PartyWalls x = building(2, "");
            x.done(0);
            Check.dueThrows("of one that is done", Check.ARGUMENT, () -> x.build(0, 0, 0, 0, 1));
        });
        Check.sentence("Promise 24: or the COST not 0 to 100,000.", () -> {
            Check.dueRange("cost", 0, 100_000, cost -> building(2, "").build(0, 0, 0, 1, cost));
            PartyWalls x = building(2, "");
            x.build(0, 0, 0, 1, 0);
            x.build(0, 0, 0, 1, 100_000);
            Check.due("value of 0", x.cell(0, 0, 0, 1), 0);
            Check.due("value of the most", x.cell(0, 0, 1, 1), 100_000);
        });
    }

    private static void lower() {
        Check.sentence("Promise 25: is taken off, if it has one: how many.", () -> {
            PartyWalls x = building(2, "");
            Check.due("of none", x.lower(0, 0, 11), 0);
            x.build(0, 0, 0, 1, 4);
            x.build(0, 11, 11, 2, 4);
            x.build(1, 11, 11, 1, 6);
            Check.due("of the first alone", x.lower(0, 0, 10), 1);
            Check.due("of it again", x.lower(0, 0, 10), 0);
            Check.due("of the last alone", x.lower(0, 1, 11), 1);
            Check.due("the highest is off", x.cell(0, 11, 2, 0), -1);
            Check.due("the others stay", x.cell(0, 11, 1, 1), 4);
            Check.due("and off", x.lower(0, 11, 11) + x.lower(0, 11, 11), 2);
            Check.due("none is left", x.lower(0, 11, 11), 0);
        });
        Check.sentence("Promise 25: IndexOutOfBoundsException: no such WALL (so below);", () -> {
            Check.dueNumbers("lower", 1, wall -> building(2, "").lower(wall, 0, 0));
            Check.dueNumbers("use", 1, wall -> building(2, "").use(wall, 0, 0, 0, 0));
            Check.dueNumbers("cell", 1, wall -> building(2, "").cell(wall, 0, 0, 0));
            Check.dueThrows("and no segments", Check.INDEX, () -> building(2, "").lower(1, 1, 0));
            Check.dueThrows("and no side", Check.INDEX, () -> building(2, "").use(1, 2, 1, 0, 21));
            Check.dueThrows("and no what", Check.INDEX, () -> building(2, "").cell(1, 12, 0, 3));
            Check.dueThrows("no walls", Check.INDEX, () -> new PartyWalls().lower(0, 0, 0));
        });
        Check.sentence("Promise 25: IllegalArgumentException: no such SEGMENTS (so below).", () -> {
            Check.dueRange("lower from", 0, 11, from -> building(2, "").lower(0, from, 11));
            Check.dueRange("lower to", 0, 11, to -> building(2, "").lower(0, 0, to));
            Check.dueRange("lower to, from 7 on", 7, 11, to -> building(2, "").lower(0, 7, to));
            Check.dueRange("use from", 0, 11, from -> building(2, "").use(0, 0, from, 11, 20));
            Check.dueRange("use to", 0, 11, to -> building(2, "").use(0, 0, 0, to, 20));
            Check.dueRange("use to, from 7 on", 7, 11, to -> building(2, "").use(0, 0, 7, to, 20));
            Check.dueRange("segment of a cell", 0, 11, segment -> building(2, "").cell(0, segment, 0, 0));
        });
    }

    private static void use() {
        Check.sentence("Promise 26: below a height (0 to 20)", () -> {
            Check.dueRange("height", 0, 20, height -> building(2, "").use(0, 0, 0, 0, height));
            for (int height = 0; height <= 20; height++) {
                PartyWalls x = building(2, "");
                x.build(0, 3, 3, 20, 2);
                Check.due("below " + height, x.use(0, 1, 3, 3, height), height);
                for (int k = 0; k < 20; k++) {
                    Check.due("below " + height + ", cell " + k, x.cell(0, 3, k, 2), k < height ? 3 : 1);
                }
            }
        });
        Check.sentence("Terms 3: for each CELL there that the other SIDE built", () -> {
            PartyWalls x = building(2, "");
            x.build(0, 2, 2, 1, 100);
            x.build(1, 2, 2, 1, 60);
            x.build(0, 4, 4, 1, 8);
            Check.due("side 0", x.use(0, 0, 0, 11, 20), 30);
            Check.due("side 1", x.use(0, 1, 0, 11, 20), 54);
            PartyWalls y = building(2, "");
            y.build(0, 2, 4, 1, 100);
            Check.due("ahead of them", y.use(0, 1, 0, 1, 20), 0);
            Check.due("behind them", y.use(0, 1, 5, 11, 20), 0);
            Check.due("the last", y.use(0, 1, 4, 5, 20), 50);
            Check.due("the first", y.use(0, 1, 1, 2, 20), 50);
            Check.due("what is left", y.use(0, 1, 0, 11, 20), 50);
        });
        Check.sentence("Terms 3: and that it hasn't used so far", () -> {
            PartyWalls x = building(2, "");
            x.build(0, 0, 0, 2, 100);
            Check.due("one", x.use(0, 1, 0, 0, 1), 50);
            Check.due("it again", x.use(0, 1, 0, 0, 1), 0);
            Check.due("the other", x.use(0, 1, 0, 0, 2), 50);
            Check.due("both again", x.use(0, 1, 0, 0, 20), 0);
            x.lower(0, 0, 0);
            x.build(0, 0, 0, 1, 100);
            Check.due("one built anew", x.use(0, 1, 0, 0, 20), 50);
            x.sell(0, 1, 0);
            Check.due("the side, not the owner, has used", x.use(0, 1, 0, 0, 20), 0);
        });
        Check.sentence("Terms 3: it pays half the VALUE, cut", () -> {
            PartyWalls x = building(2, "");
            x.build(0, 0, 2, 1, 3);
            x.build(0, 3, 3, 1, 1);
            Check.due("each is cut", x.use(0, 1, 0, 3, 20), 3);
            PartyWalls y = building(2, "fade 33;");
            y.build(0, 0, 0, 1, 100);
            y.wait(365);
            Check.due("of what it is now", y.use(0, 1, 0, 0, 20), 33);
        });
    }

    private static void useOfNothing() {
        Check.sentence("Terms 3: all in one PAYMENT of its OWNER to the other SIDE's", () -> {
            PartyWalls x = building(2, "");
            x.build(0, 0, 11, 2, 10);
            x.wait(4);
            Check.due("all", x.use(0, 1, 0, 11, 2), 120);
            duePayment(x, 0, 1, 0, 120, 4);
            x.build(1, 0, 0, 1, 10);
            x.use(0, 0, 0, 0, 3);
            duePayment(x, 1, 0, 1, 5, 4);
            PartyWalls most = building(2, "");
            most.build(0, 0, 11, 20, 100_000);
            Check.due("the most", most.use(0, 1, 0, 11, 20), 12_000_000);
        });
        Check.sentence("Terms 3: (none of 0) of a use", () -> {
            PartyWalls x = building(2, "");
            Check.due("no cells", x.use(0, 1, 0, 11, 20), 0);
            x.build(0, 0, 0, 1, 0);
            x.build(0, 0, 0, 1, 1);
            Check.due("of half of 1 and of 0", x.use(0, 1, 0, 0, 20), 0);
            Check.due("none", x.count(9), 0);
            Check.due("used", x.cell(0, 0, 0, 2) + x.cell(0, 0, 1, 2), 6);
            x.build(0, 1, 1, 1, 2);
            Check.due("of 1", x.use(0, 1, 1, 1, 20), 1);
            Check.due("one", x.count(9), 1);
        });
    }

    private static void useAndBook() {
        Check.sentence("Promise 26: -1, and nothing changes: the BOOK is full and it would pay.", () -> {
            PartyWalls x = building(2, "");
            x.build(0, 0, 0, 2, 2);
            x.build(1, 1, 1, 1, 1);
            fillBook(x);
            Check.due("it would pay", x.use(0, 1, 0, 0, 20), -1);
            Check.due("not used", x.cell(0, 0, 0, 2) + x.cell(0, 0, 1, 2), 2);
            Check.due("payments", x.count(9), FULL);
            Check.due("it would pay still", x.use(0, 1, 0, 0, 1), -1);
            Check.due("it would not", x.use(0, 1, 0, 0, 0), 0);
            Check.due("the other would not", x.use(0, 0, 0, 11, 20), 0);
            Check.due("used", x.cell(0, 1, 0, 2), 3);
        });
        Check.sentence("Terms 3: PAYMENTS are written in the BOOK, 300 at most", () -> {
            PartyWalls x = building(2, "");
            x.build(0, 0, 0, 1, 2);
            for (int i = 0; i < FULL - 1; i++) {
                Check.due("broken", x.enter(0, 0), 0);
            }
            Check.due("the 300th", x.use(0, 1, 0, 0, 1), 1);
            duePayment(x, FULL - 1, 1, 0, 1, 0);
            Check.due("no 301st", x.enter(0, 0), -2);
            Check.due("payments", x.count(9), FULL);
        });
    }

    private static void value() {
        Check.sentence("Terms 3: for each 365 DAYS that are full since", () -> {
            PartyWalls x = building(2, "fade 1;");
            x.wait(100);
            x.build(0, 0, 0, 1, 100);
            for (int year = 1; year <= 3; year++) {
                x.wait(364);
                Check.due("a day ahead of year " + year, x.cell(0, 0, 0, 1), 101 - year);
                x.wait(1);
                Check.due("year " + year, x.cell(0, 0, 0, 1), 100 - year);
            }
            x.build(0, 0, 0, 1, 100);
            Check.due("since it was built", x.cell(0, 0, 1, 1), 100);
        });
        Check.sentence("Terms 3: 0 at least) by 100, cut", () -> {
            PartyWalls x = building(2, "fade 33;");
            x.build(0, 0, 0, 1, 99);
            x.build(0, 0, 0, 1, 100_000);
            int[] want = {99, 66, 33, 0, 0, 0};
            for (int year = 0; year < want.length; year++) {
                Check.due("year " + year, x.cell(0, 0, 0, 1), want[year]);
                x.wait(365);
            }
            for (int i = 0; i < 99; i++) {
                x.wait(10_000);
            }
            Check.due("the most, far on", x.cell(0, 0, 1, 1), 0);
            Check.rule(x, "fade 100;");
            Check.due("the most, of the most", x.cell(0, 0, 1, 1), 0);
            Check.rule(x, "fade 0;");
            Check.due("of fade 0", x.cell(0, 0, 1, 1), 100_000);
        });
        Check.sentence("Terms 3: fade, by the RULE now", () -> {
            PartyWalls x = building(2, "fade 10;");
            x.build(0, 0, 0, 1, 100);
            x.wait(365);
            Check.due("10", x.cell(0, 0, 0, 1), 90);
            Check.rule(x, "fade 100;");
            Check.due("100", x.cell(0, 0, 0, 1), 0);
            Check.due("a use is by it, too", x.use(0, 1, 0, 0, 1), 0);
            Check.rule(x, "");
            Check.due("without", x.cell(0, 0, 0, 1), 100);
        });
    }

    private static void cell() {
        Check.sentence("Promise 27: IllegalArgumentException: also another what.", () -> {
            PartyWalls x = building(2, "");
            Check.dueRange("what, no cell", 0, 2, what -> x.cell(0, 0, 0, what));
            x.build(0, 0, 0, 1, 1);
            Check.dueRange("what", 0, 2, what -> x.cell(0, 0, 0, what));
        });
        Check.sentence("Promise 27: NONE without.", () -> {
            PartyWalls x = building(2, "");
            x.build(0, 5, 5, 20, 7);
            x.build(1, 11, 11, 2, 7);
            for (int what = 0; what < 3; what++) {
                for (int k : new int[] {-1, 20, 21, 240, Integer.MIN_VALUE, Integer.MAX_VALUE}) {
                    Check.due("of 20, cell " + k, x.cell(0, 5, k, what), -1);
                    Check.due("of the next, cell " + k, x.cell(0, 6, k, what), -1);
                    Check.due("of the last, cell " + k, x.cell(0, 11, k, what), -1);
                }
                Check.due("of none", x.cell(0, 0, 0, what), -1);
                Check.due("of two", x.cell(0, 11, 2, what), -1);
            }
            Check.due("the lowest", x.cell(0, 5, 0, 1), 7);
            Check.due("the highest", x.cell(0, 5, 19, 1), 7);
        });
        Check.sentence("Promise 27: 0 the SIDE that built it, 1 VALUE, 2 SIDES that use it, as bits;", () -> {
            PartyWalls x = building(2, "");
            x.build(0, 0, 0, 1, 6);
            x.build(1, 0, 0, 1, 8);
            x.use(0, 0, 0, 0, 2);
            int[][] want = {{0, 6, 1}, {1, 8, 3}};
            for (int k = 0; k < 2; k++) {
                for (int what = 0; what < 3; what++) {
                    Check.due("cell " + k + ", " + what, x.cell(0, 0, k, what), want[k][what]);
                }
            }
        });
    }

    private static void spend() {
        Check.sentence("Promise 28: IllegalArgumentException: the sum is not 0 to 1,000,000.", () -> {
            Check.dueRange("sum", 0, 1_000_000, sum -> shared(50).spend(0, sum));
            PartyWalls x = Check.withWall(2, "");
            x.work(0, 0, 0, 0, 0, 0);
            Check.dueRange("sum, planned", 0, 1_000_000, sum -> x.spend(0, sum));
        });
        Check.sentence("Promise 28: -1: the WORK is neither BEGUN nor DONE;", () -> {
            PartyWalls x = Check.withWall(2, "raise 0 if depth>0;");
            x.work(0, 0, 0, 1, 0, 0);
            x.work(0, 0, 0, 0, 0, 0);
            Check.due("planned", x.spend(0, 5), -1);
            Check.due("free", x.spend(1, 5), -1);
            x.notice(0);
            Check.due("asked", x.spend(0, 5), -1);
            x.answer(0, true);
            Check.due("allowed", x.spend(0, 5), -1);
            Check.due("allowed, of 0", x.spend(0, 0), -1);
            x.work(0, 0, 0, 1, 0, 0);
            x.notice(2);
            x.answer(2, false);
            Check.due("dispute", x.spend(2, 5), -1);
            x.begin(2);
            Check.due("void", x.spend(2, 5), -1);
            x.begin(1);
            Check.due("begun", x.spend(1, 5), 0);
            x.done(1);
            Check.due("done", x.spend(1, 5), 0);
        });
        Check.sentence("Terms 3: pays 100 less SHARE hundredths of it, cut", () -> {
            for (int share = 0; share <= 100; share += 20) {
                Check.due("of 99, share " + share, shared(share).spend(0, 99), 99 * (100 - share) / 100);
            }
            Check.due("all of the most", shared(0).spend(0, 1_000_000), 1_000_000);
            Check.due("a hundredth", shared(99).spend(0, 199), 1);
            PartyWalls x = building(2, "");
            Check.due("not awarded: share 100", x.spend(0, 1_000_000), 0);
        });
        Check.sentence("Terms 3: (none of 0) of what is spent", () -> {
            PartyWalls x = shared(99);
            Check.due("of 99", x.spend(0, 99), 0);
            Check.due("of 0", x.spend(0, 0), 0);
            Check.due("none", x.count(9), 0);
            Check.due("of 100", x.spend(0, 100), 1);
            duePayment(x, 0, 0, 1, 1, 0);
            PartyWalls y = shared(100);
            Check.due("share 100", y.spend(0, 1_000_000), 0);
            Check.due("none", y.count(9), 0);
        });
        Check.sentence("Promise 28: -2: the BOOK is full and he would pay.", () -> {
            PartyWalls x = shared(50);
            fillBook(x);
            Check.due("he would", x.spend(0, 2), -2);
            Check.due("payments", x.count(9), FULL);
            Check.due("he would not", x.spend(0, 1), 0);
            x.done(0);
            Check.due("done, he would", x.spend(0, 2), -2);
            int planned = x.work(0, 0, 0, 0, 0, 0);
            Check.due("-1 ahead of -2", x.spend(planned, 2), -1);
        });
    }

    private static void secure() {
        Check.sentence("Promise 29: IllegalArgumentException: the sum is not 1 to 1,000,000.", () -> {
            Check.dueRange("sum", 1, 1_000_000, sum -> building(2, "").secure(0, sum));
            PartyWalls x = building(2, "");
            x.secure(0, 1);
            Check.dueThrows("held, of 0", Check.ARGUMENT, () -> x.secure(0, 0));
        });
        Check.sentence("Promise 29: SECURITY is held: 1; -1: it was.", () -> {
            PartyWalls x = building(2, "");
            Check.due("held", x.secure(0, 5), 1);
            Check.due("it was", x.secure(0, 500), -1);
            Check.due("of another", x.secure(1, 500), 1);
            x.done(0);
            Check.due("it was, done", x.secure(0, 500), -1);
            Check.due("the first one", x.settle(0, 500), 5);
            Check.due("it was, settled", x.secure(0, 500), -1);
            Check.due("settled once", x.settle(0, 500), -2);
            x.done(1);
            x.settle(1, 0);
            Check.due("it was, settled of 0", x.secure(1, 500), -1);
        });
        Check.sentence("Terms 3: held once, of its SIDE's OWNER (no PAYMENT)", () -> {
            PartyWalls x = building(2, "");
            x.secure(0, 1_000_000);
            Check.due("payments", x.count(9), 0);
            Check.due("balance", x.balance(0, 9, 9), 0);
            fillBook(x);
            Check.due("though the book is full", x.secure(1, 5), 1);
        });
    }

    private static void settle() {
        Check.sentence("Terms 3: a damage, as far as it goes, is paid to the other SIDE's OWNER (none of 0)", () -> {
            for (int damage = 99; damage <= 101; damage++) {
                PartyWalls x = building(2, "");
                x.secure(1, 100);
                x.done(1);
                Check.due("damage " + damage, x.settle(1, damage), Math.min(damage, 100));
                duePayment(x, 0, 1, 0, Math.min(damage, 100), 0);
            }
            PartyWalls most = building(2, "");
            most.secure(0, 1_000_000);
            most.done(0);
            Check.due("the most", most.settle(0, 1_000_000), 1_000_000);
            PartyWalls none = building(2, "");
            none.secure(0, 1);
            none.done(0);
            Check.due("of 0", none.settle(0, 0), 0);
            Check.due("none of 0", none.count(9), 0);
            Check.due("settled by that", none.settle(0, 1), -2);
        });
        Check.sentence("Promise 30: IllegalArgumentException: the damage is not 0 to 1,000,000.", () -> {
            Check.dueRange("damage, begun", 0, 1_000_000, damage -> building(2, "").settle(0, damage));
            PartyWalls x = building(2, "");
            x.secure(0, 5);
            x.done(0);
            Check.dueThrows("damage -1", Check.ARGUMENT, () -> x.settle(0, -1));
            Check.dueThrows("damage", Check.ARGUMENT, () -> x.settle(0, 1_000_001));
            Check.due("not settled by that", x.settle(0, 1_000_000), 5);
        });
    }

    private static void settleRefused() {
        Check.sentence("Promise 30: -1 the WORK is neither DONE nor VOID;", () -> {
            PartyWalls x = Check.withWall(2, "raise 0 if depth>0;");
            x.work(0, 0, 0, 1, 0, 0);
            x.work(0, 0, 0, 0, 0, 0);
            x.secure(0, 5);
            x.secure(1, 5);
            Check.due("planned", x.settle(0, 5), -1);
            Check.due("free", x.settle(1, 5), -1);
            x.notice(0);
            Check.due("asked", x.settle(0, 5), -1);
            x.answer(0, false);
            Check.due("dispute", x.settle(0, 5), -1);
            x.begin(1);
            Check.due("begun", x.settle(1, 5), -1);
            x.begin(0);
            Check.due("void", x.settle(0, 4), 4);
            x.done(1);
            Check.due("done", x.settle(1, 3), 3);
            x.work(0, 0, 0, 1, 0, 0);
            x.secure(2, 5);
            x.notice(2);
            x.answer(2, true);
            Check.due("allowed", x.settle(2, 5), -1);
        });
        Check.sentence("Promise 30: -2 there is none, or it was settled;", () -> {
            PartyWalls x = building(2, "");
            x.done(0);
            Check.due("none", x.settle(0, 5), -2);
            x.secure(0, 5);
            Check.due("held later", x.settle(0, 4), 4);
            Check.due("settled", x.settle(0, 1), -2);
            Check.due("settled, of 0", x.settle(0, 0), -2);
            Check.due("payments", x.count(9), 1);
        });
        Check.sentence("Promise 30: -3 the BOOK is full and something would be paid.", () -> {
            PartyWalls x = building(2, "");
            x.secure(0, 5);
            fillBook(x);
            x.done(0);
            Check.due("something", x.settle(0, 1), -3);
            Check.due("payments", x.count(9), FULL);
            Check.due("not settled by that", x.settle(0, 1), -3);
            Check.due("nothing", x.settle(0, 0), 0);
            Check.due("settled by that", x.settle(0, 1), -2);
        });
        Check.sentence("Promise 30: or, the first of these", () -> {
            PartyWalls x = building(2, "");
            Check.due("-1 ahead of -2", x.settle(1, 1), -1);
            x.secure(1, 5);
            fillBook(x);
            Check.due("-1 ahead of -3", x.settle(1, 1), -1);
            x.done(0);
            Check.due("-2 ahead of -3", x.settle(0, 1), -2);
        });
    }

    private static void ownersThen() {
        Check.sentence("Terms 3: A BROKEN ENTRY costs 10, paid to the other SIDE's OWNER.", () -> {
            PartyWalls x = building(2, "");
            x.wait(3);
            x.enter(0, 0);
            duePayment(x, 0, 0, 1, 10, 3);
            x.enter(1, 23);
            duePayment(x, 1, 1, 0, 10, 3);
            x.enter(1, 9);
            Check.due("kept costs none", x.count(9), 2);
        });
        Check.sentence("Terms 3: (OWNERS as they are then;", () -> {
            PartyWalls x = shared(50);
            x.secure(0, 100);
            x.build(0, 0, 0, 1, 8);
            x.sell(0, 0, 2);
            x.sell(0, 1, 3);
            x.enter(0, 0);
            duePayment(x, 0, 3, 2, 10, 0);
            x.spend(0, 20);
            duePayment(x, 1, 2, 3, 10, 0);
            x.use(0, 0, 0, 0, 1);
            duePayment(x, 2, 2, 3, 4, 0);
            x.done(0);
            x.settle(0, 7);
            duePayment(x, 3, 3, 2, 7, 0);
            x.sell(0, 0, 0);
            Check.due("who paid stays", x.payment(1, 0), 2);
        });
        Check.sentence("Terms 3: PAYMENTS of an OWNER to itself are written, too.)", () -> {
            PartyWalls x = shared(50);
            x.secure(0, 100);
            x.build(0, 0, 0, 1, 8);
            x.sell(0, 1, 0);
            x.enter(0, 0);
            duePayment(x, 0, 0, 0, 10, 0);
            x.spend(0, 20);
            duePayment(x, 1, 0, 0, 10, 0);
            x.use(0, 0, 0, 0, 1);
            duePayment(x, 2, 0, 0, 4, 0);
            x.done(0);
            x.settle(0, 7);
            duePayment(x, 3, 0, 0, 7, 0);
            Check.due("balance", x.balance(0, 0, 0), 0);
            fillBookBySelf();
        });
    }

    private static void fillBookBySelf() {
        PartyWalls x = building(2, "");
        x.sell(0, 1, 0);
        fillBook(x);
        Check.due("to itself, of a full book", x.enter(0, 0), -2);
    }

    private static void mend() {
        Check.sentence("Promise 31: IndexOutOfBoundsException: no such PAYMENT;", () -> {
            PartyWalls x = building(2, "");
            Check.dueThrows("none yet", Check.INDEX, () -> x.mend(0, 0));
            x.enter(0, 0);
            x.enter(0, 0);
            Check.dueNumbers("payment", 2, payment -> x.mend(payment, 5));
            Check.dueThrows("and no sum", Check.INDEX, () -> x.mend(2, -1));
        });
        Check.sentence("Promise 31: IllegalArgumentException: the sum is not 0 to 1,000,000,000.", () -> {
            PartyWalls x = building(2, "");
            x.enter(0, 0);
            Check.dueThrows("refused", Check.ARGUMENT, () -> x.mend(0, -1));
            Check.due("not mended by that", x.count(11), 0);
            Check.dueRange("sum", 0, 1_000_000_000, sum -> x.mend(0, sum));
            Check.due("the most", x.payment(0, 2), 1_000_000_000);
            Check.due("mended", x.count(11), 2);
        });
        Check.sentence("Promise 31: -1: there are 60.", () -> {
            PartyWalls x = building(2, "");
            x.enter(0, 0);
            x.enter(0, 0);
            for (int i = 0; i < 60; i++) {
                Check.due("mended", x.mend(i % 2, 100 + i), i < 2 ? 10 : 98 + i);
            }
            Check.due("a 61st", x.mend(0, 5), -1);
            Check.due("of the other", x.mend(1, 5), -1);
            Check.due("nothing changes", x.payment(0, 2) + x.payment(1, 2), 158 + 159);
            Check.due("how often", x.count(11), 60);
            Check.dueThrows("a 61st, no sum", Check.ARGUMENT, () -> x.mend(0, -1));
            Check.dueThrows("a 61st, no payment", Check.INDEX, () -> x.mend(2, 0));
        });
        Check.sentence("Promise 31: A PAYMENT is MENDED: the sum as it was known;", () -> {
            PartyWalls x = building(2, "");
            x.enter(0, 0);
            Check.due("first", x.mend(0, 0), 10);
            Check.due("of 0", x.mend(0, 7), 0);
            x.wait(1);
            Check.due("a day later", x.mend(0, 7), 7);
            Check.due("alike", x.mend(0, 9), 7);
        });
    }

    private static void payment() {
        Check.sentence("Promise 32: IndexOutOfBoundsException: no such PAYMENT;", () -> {
            PartyWalls x = building(2, "");
            Check.dueThrows("none yet", Check.INDEX, () -> x.payment(0, 0));
            x.enter(0, 0);
            x.enter(0, 0);
            Check.dueNumbers("payment", 2, payment -> x.payment(payment, 0));
            Check.dueThrows("and no what", Check.INDEX, () -> x.payment(2, 4));
            fillBook(x);
            Check.dueNumbers("payment of a full book", FULL, payment -> x.payment(payment, 2));
        });
        Check.sentence("Promise 32: IllegalArgumentException: another what.", () -> {
            PartyWalls x = building(2, "");
            x.enter(0, 0);
            Check.dueRange("what", 0, 3, what -> x.payment(0, what));
        });
        Check.sentence("Promise 32: 2 the sum as known today, 3 the DAY.", () -> {
            PartyWalls x = building(2, "");
            x.wait(5);
            x.enter(1, 0);
            x.wait(2);
            duePayment(x, 0, 1, 0, 10, 5);
            x.mend(0, 30);
            duePayment(x, 0, 1, 0, 30, 5);
            x.mend(0, 20);
            duePayment(x, 0, 1, 0, 20, 5);
        });
    }

    private static void balance() {
        Check.sentence("Promise 33: BALANCE up to a DAY, as KNOWN on another one.", () -> {
            PartyWalls x = building(3, "");
            x.wait(2);
            x.enter(0, 0);
            x.wait(2);
            x.enter(0, 0);
            int most = Integer.MAX_VALUE;
            int least = Integer.MIN_VALUE;
            int[] upTo = {least, -1, 0, 1, 2, 3, 4, 5, most};
            int[] want = {0, 0, 0, 0, -10, -10, -20, -20, -20};
            for (int i = 0; i < upTo.length; i++) {
                Check.due("up to " + upTo[i], x.balance(0, upTo[i], most), want[i]);
                Check.due("known on " + upTo[i], x.balance(0, most, upTo[i]), want[i]);
                Check.due("of who gets it", x.balance(1, upTo[i], upTo[i]), -want[i]);
                Check.due("of another", x.balance(2, upTo[i], upTo[i]), 0);
            }
        });
        Check.sentence("Promise 33: long balance: more than an int holds", () -> {
            PartyWalls x = building(2, "");
            fillBook(x);
            Check.due("300 payments", x.balance(0, 0, 0), -3_000);
            for (int i = 0; i < 60; i++) {
                x.mend(i, 1_000_000_000);
            }
            Check.due("of who pays", x.balance(0, 0, 0), -60_000_002_400L);
            Check.due("of who gets it", x.balance(1, 0, 0), 60_000_002_400L);
        });
        Check.sentence("Promise 33: IndexOutOfBoundsException", () -> {
            Check.dueNumbers("owner", 2, owner -> building(2, "").balance(owner, 0, 0));
            Check.dueThrows("no owners", Check.INDEX, () -> new PartyWalls().balance(0, 0, 0));
        });
    }

    private static void bookOfTwoTimes() {
        Check.sentence("Terms 3: its sum is another one, as known from today on", () -> {
            PartyWalls x = building(2, "");
            x.enter(0, 0);
            x.wait(3);
            x.mend(0, 50);
            Check.due("on the day of it", x.balance(0, 0, 3), -50);
            Check.due("a day ahead", x.balance(0, 0, 2), -10);
            Check.due("on the day of the payment", x.balance(0, 0, 0), -10);
            Check.due("later", x.balance(0, 0, 900), -50);
        });
        Check.sentence("Terms 3: each with the sum that was known last by then", () -> {
            PartyWalls x = building(2, "");
            x.enter(0, 0);
            x.enter(0, 0);
            x.mend(0, 11);
            x.mend(0, 12);
            x.wait(1);
            x.mend(1, 100);
            x.wait(1);
            x.mend(0, 13);
            x.mend(0, 0);
            Check.due("known on 0, the last of that day", x.balance(0, 0, 0), -22);
            Check.due("known on 1", x.balance(0, 0, 1), -112);
            Check.due("known on 2, the last of that day", x.balance(0, 0, 2), -100);
            Check.due("known ahead of all", x.balance(0, 0, -1), 0);
        });
    }
}
