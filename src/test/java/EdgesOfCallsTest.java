import java.io.IOException;

/** Promises 1 to 12: each sentence that names an edge has a test of its own. */
public final class EdgesOfCallsTest {
    private static final int MIN = Integer.MIN_VALUE;
    private static final int MAX = Integer.MAX_VALUE;
    private static final String RANGE = "Throws `IllegalArgumentException` if ";
    private static final String STATE = "Throws `IllegalStateException` if ";
    private static final String NO_RECEIPT = "Throws `IndexOutOfBoundsException` if there is no such receipt";
    private static final String RECEIPT = "`receipt`: the number of a receipt";
    private static Sentences s;

    /** A call of which one argument is looked at. */
    private interface CallOfOne {
        long run(int argument);
    }

    public static void main(String[] args) throws IOException {
        s = new Sentences();
        newObject();
        silo();
        terms();
        deliver();
        split();
        sell();
        pledge();
        redeem();
        takeOut();
        reweigh();
        contract();
        pass();
        s.end();
    }

    /** Each of the arguments, and those far from all that can be, are refused. */
    private static void refusesRange(String what, CallOfOne call, int... arguments) {
        for (int argument : arguments) {
            s.noRange(what + " " + argument, () -> call.run(argument));
        }
        s.noRange(what + " " + MIN, () -> call.run(MIN));
        s.noRange(what + " " + MAX, () -> call.run(MAX));
    }

    private static void refusesIndex(String what, CallOfOne call, int... arguments) {
        for (int argument : arguments) {
            s.noIndex(what + " " + argument, () -> call.run(argument));
        }
        s.noIndex(what + " " + MIN, () -> call.run(MIN));
        s.noIndex(what + " " + MAX, () -> call.run(MAX));
    }

    /** The numbers of the first and the last receipt are numbers of one, those beyond them are not. */
    private static void numbersOfReceipts(CallOfOne call, Grainledger x, long first, long last) {
        s.due("the last", call.run(x.receipts() - 1), last);
        s.due("the first", call.run(0), first);
    }

    private static void noReceipts(CallOfOne call, Grainledger x) {
        refusesIndex("receipt", call, -1, x.receipts(), x.receipts() + 1, 80);
    }

    // ---- Promise 1
    private static void newObject() {
        s.under("Promise 1");
        s.edge("Creates an exchange without silos: the rate of shrinkage is 0, the fair price 20 cents, the penalty 5 "
                + "cents.", EdgesOfCallsTest::newIsEmpty);
    }

    private static void newIsEmpty() {
        Grainledger x = new Grainledger();
        s.noIndex("no silo", () -> x.ofSilo(0, 0));
        s.noIndex("no content", () -> x.contentAnew(0));
        s.noState("no room", () -> x.deliver(0, 0, 100, 140));
        s.noIndex("no delivery", () -> x.delivery(0, 0));
        s.noIndex("no contract", () -> x.ofContract(0, 0));
        s.noIndex("no receipt", () -> x.receipt(0, 0));
        s.due("receipts", x.receipts(), 0);
        s.due("the first silo", x.silo(1000000), 0);
        for (int i = 0; i < 25; i++) {
            x.deliver(0, 0, 40000, 140);
        }
        x.contract(1, 2, 1, 1, 1, 1, 0);
        x.pass(1);
        s.due("the rate", x.ofSilo(0, 3), 0);
        s.due("the penalty", x.account(2), 5);
        x.sell(0, 3, 0);
        x.reweigh(0, 141);
        s.due("the fair price, for 47 kilograms", x.account(3), 940);
    }

    // ---- Promise 2
    private static void silo() {
        s.under("Promise 2");
        s.plain("Builds a silo.");
        s.edge("`room`: 1 to 1000000", EdgesOfCallsTest::rooms);
        s.edge("Returns its number.", () -> {
            Grainledger x = new Grainledger();
            for (int i = 0; i < 6; i++) {
                s.due("silo", x.silo(1000000 - i), i);
            }
        });
        s.edge(RANGE + "room is out of range", () -> {
            Grainledger x = new Grainledger();
            refusesRange("room", x::silo, 0, -1, 1000001);
            s.noIndex("none was built", () -> x.ofSilo(0, 0));
        });
        s.edge(STATE + "there are 6", () -> {
            Grainledger x = Recipes.withSilos(1, 1, 1, 1, 1);
            s.due("there are 5", x.silo(1), 5);
            s.noState("there are 6", () -> x.silo(1));
            s.noState("there are 6 still", () -> x.silo(1000000));
        });
    }

    private static void rooms() {
        Grainledger x = new Grainledger();
        s.due("the least", x.silo(1), 0);
        s.noState("is too small for all", () -> x.deliver(0, 0, 100, 300));
        s.due("the most", x.silo(1000000), 1);
        for (int i = 0; i < 25; i++) {
            x.deliver(0, 0, 40000, 140);
        }
        s.due("holds so much", x.ofSilo(1, 0), 1000000);
        s.noState("and no more", () -> x.deliver(0, 0, 100, 140));
        s.due("81 kilograms", x.silo(81), 2);
        x.deliver(0, 0, 100, 300);
        s.due("hold the least dry weight", x.ofSilo(2, 0), 81);
    }

    // ---- Promise 3
    private static void terms() {
        s.under("Promise 3");
        s.edge("Sets the terms, for what happens from now on.", EdgesOfCallsTest::fromNowOn);
        s.edge("`rate`: 0 to 5000: of shrinkage", () -> {
            for (int rate : new int[] {0, 1, 4999, 5000}) {
                Grainledger x = Recipes.withContent(100000);
                x.terms(rate, 0, 0);
                x.pass(1);
                s.due("lost at " + rate, x.ofSilo(0, 3), rate);
            }
        });
        s.edge("`fair`: 0 to 1000: the fair price", () -> {
            for (int fair : new int[] {0, 1, 999, 1000}) {
                Grainledger x = Recipes.withReceipts(1000);
                x.sell(0, 1, 0);
                x.terms(0, fair, 0);
                x.reweigh(0, 300);
                s.due("paid at " + fair, x.account(1), 187L * fair);
            }
        });
        s.edge("`penalty`: 0 to 1000", () -> {
            for (int penalty : new int[] {0, 1, 999, 1000}) {
                Grainledger x = new Grainledger();
                x.contract(0, 1, 0, 0, 7, 1, 0);
                x.terms(0, 0, penalty);
                x.pass(1);
                s.due("paid at " + penalty, x.account(1), 7L * penalty);
            }
        });
        s.edge(RANGE + "an argument is out of range", () -> {
            Grainledger x = new Grainledger();
            refusesRange("rate", a -> setTerms(x, a, 20, 5), -1, 5001);
            refusesRange("fair", a -> setTerms(x, 0, a, 5), -1, 1001);
            refusesRange("penalty", a -> setTerms(x, 0, 20, a), -1, 1001);
        });
    }

    private static long setTerms(Grainledger x, int rate, int fair, int penalty) {
        x.terms(rate, fair, penalty);
        return 0;
    }

    private static void fromNowOn() {
        Grainledger x = Recipes.withReceipts(1000);
        x.pass(1);
        x.contract(1, 2, 1, 1, 10, 1, 0);
        x.contract(1, 3, 1, 1, 10, 2, 0);
        x.sell(0, 4, 0);
        x.reweigh(0, 200);
        x.pass(1);
        x.terms(1000, 30, 7);
        s.due("what was not lost", x.ofSilo(0, 3), 0);
        s.due("what was paid for 70 kilograms", x.account(4), 1400);
        s.due("what was paid for 10 that are missing", x.account(2), 50);
        x.pass(1);
        x.reweigh(0, 300);
        s.due("from now on it is lost", x.ofSilo(0, 3), 9);
        s.due("from now on it is the new fair price", x.account(4), 1400 + 117 * 30);
        s.due("from now on it is the new penalty", x.account(3), 70);
    }

    // ---- Promise 4
    private static void deliver() {
        s.under("Promise 4");
        s.plain("Delivers.");
        s.edge("`holder`: 0 to 5", () -> {
            for (int holder = 0; holder < 6; holder++) {
                Grainledger x = Recipes.withSilos(1000);
                x.deliver(holder, 0, 100, 140);
                s.due("the holder", x.receipt(0, 1), holder);
            }
        });
        s.edge("`grain`: 0 to 2", () -> {
            for (int grain = 0; grain < 3; grain++) {
                Grainledger x = Recipes.withSilos(1000);
                x.deliver(0, grain, 100, 140);
                s.due("the grain", x.ofSilo(0, 1), grain);
            }
        });
        s.edge("`weight`: 100 to 40000", () -> {
            for (int weight : new int[] {100, 101, 39999, 40000}) {
                Grainledger x = Recipes.withSilos(40000);
                x.deliver(0, 0, weight, 140);
                s.due("the weight", x.receipt(0, 0), weight);
            }
        });
        s.edge("`moisture`: 50 to 300", () -> {
            int[][] table = {{50, 1000}, {51, 1000}, {299, 815}, {300, 813}};
            for (int[] row : table) {
                Grainledger x = Recipes.withSilos(1000);
                x.deliver(0, 0, 1000, row[0]);
                s.due("at " + row[0], x.receipt(0, 0), row[1]);
            }
        });
        s.edge("Returns the number of the receipt.", () -> {
            Grainledger x = Recipes.withSilos(1000000);
            s.due("the first", x.deliver(0, 0, 1000, 140), 0);
            x.split(0, 1);
            x.split(0, 1);
            s.due("behind two splits", x.deliver(0, 0, 1000, 140), 3);
            for (int i = 4; i < 79; i++) {
                x.split(0, 1);
            }
            s.due("the eightieth", x.deliver(0, 0, 1000, 140), 79);
        });
        s.edge(RANGE + "an argument is out of range", () -> {
            Grainledger x = Recipes.withSilos(1000000);
            refusesRange("holder", a -> x.deliver(a, 0, 100, 140), -1, 6);
            refusesRange("grain", a -> x.deliver(0, a, 100, 140), -1, 3);
            refusesRange("weight", a -> x.deliver(0, 0, a, 140), 99, 40001, 0, -100);
            refusesRange("moisture", a -> x.deliver(0, 0, 100, a), 49, 301, 0, -1, 1000);
            s.due("nothing came in", x.ofSilo(0, 0), 0);
        });
        s.edge(STATE + "there are 40 deliveries or 80 receipts, or no silo has room",
                EdgesOfCallsTest::noPlaceForADelivery);
    }

    private static void noPlaceForADelivery() {
        Grainledger x = Recipes.withSilos(1000000);
        for (int i = 0; i < 39; i++) {
            x.deliver(0, 0, 100, 140);
        }
        s.due("there are 39 deliveries", x.deliver(0, 0, 100, 140), 39);
        s.noState("there are 40 deliveries", () -> x.deliver(0, 0, 100, 140));
        Grainledger receipts = Recipes.withManyReceipts(79, 1000);
        s.due("there are 79 receipts", receipts.deliver(0, 0, 100, 140), 79);
        s.noState("there are 80 receipts", () -> receipts.deliver(0, 0, 100, 140));
        s.noState("no silo is there", () -> new Grainledger().deliver(0, 0, 100, 140));
        Grainledger room = Recipes.withSilos(199, 99);
        room.deliver(0, 0, 100, 140);
        s.noState("a kilogram of room too few", () -> room.deliver(0, 0, 100, 140));
        s.noState("for another grain no empty one has room", () -> room.deliver(0, 1, 100, 140));
        s.due("a kilogram less has room", room.deliver(0, 0, 100, 141), 1);
        s.due("in the empty one, of another grade", room.delivery(1, 2), 1);
        s.noState("no silo is empty", () -> room.deliver(0, 1, 100, 300));
    }

    // ---- Promise 5
    private static void split() {
        s.under("Promise 5");
        s.plain("Splits a receipt.");
        s.edge(RECEIPT, () -> {
            Grainledger x = Recipes.withReceipts(100, 200);
            numbersOfReceipts(a -> x.split(a, 10), x, 3, 2);
            s.due("of the first", x.receipt(0, 0), 90);
            s.due("of the last", x.receipt(1, 0), 190);
        });
        s.edge("`kilograms`: 1 to 40000: for the new one", () -> {
            Grainledger x = Recipes.withReceipts(40000);
            s.due("the least", x.receipt(x.split(0, 1), 0), 1);
            s.due("far more", x.receipt(x.split(0, 39998), 0), 39998);
            s.noState("40000 is none of those that are out of range", () -> x.split(0, 40000));
        });
        s.edge("Returns the number of the new one.", () -> {
            Grainledger x = Recipes.withManyReceipts(78, 1000);
            s.due("the seventy-ninth", x.split(0, 1), 78);
            s.due("the eightieth", x.split(0, 1), 79);
        });
        s.edge(NO_RECEIPT, () -> {
            Grainledger x = Recipes.withReceipts(100, 200);
            noReceipts(a -> x.split(a, 10), x);
        });
        s.edge(RANGE + "kilograms is out of range", () -> {
            Grainledger x = Recipes.withReceipts(40000);
            refusesRange("kilograms", a -> x.split(0, a), 0, -1, 40001);
            s.due("no receipt was made", x.receipts(), 1);
        });
        s.edge(STATE + "it does not have more than these, it is pledged, or there are 80 receipts",
                EdgesOfCallsTest::noSplit);
    }

    private static void noSplit() {
        Grainledger x = Recipes.withReceipts(100, 1, 100);
        s.noState("as many", () -> x.split(0, 100));
        s.noState("one more", () -> x.split(0, 101));
        s.noState("of one kilogram, one", () -> x.split(1, 1));
        s.due("one fewer", x.split(0, 99), 3);
        x.pledge(2, 1, 0, 0);
        s.noState("pledged", () -> x.split(2, 1));
        x.redeem(2);
        s.due("redeemed", x.split(2, 1), 4);
        x.takeOut(2);
        s.noState("not LIVE, so it has not more", () -> x.split(2, 1));
        Grainledger full = Recipes.withManyReceipts(79, 1000);
        s.due("there are 79", full.split(0, 1), 79);
        s.noState("there are 80", () -> full.split(0, 1));
    }

    // ---- Promise 6
    private static void sell() {
        s.under("Promise 6");
        s.plain("Sells a receipt.");
        s.edge(RECEIPT, () -> {
            Grainledger x = Recipes.withReceipts(100, 200);
            numbersOfReceipts(a -> x.sell(a, 3, 1), x, 0, 0);
            s.due("the first", x.receipt(0, 1), 3);
            s.due("the last", x.receipt(1, 1), 3);
        });
        s.edge("`to`: 0 to 5: who pays", () -> {
            for (int to = 0; to < 6; to++) {
                int other = to == 0 ? 5 : 0;
                Grainledger x = Recipes.withSilos(1000);
                x.deliver(other, 0, 100, 140);
                s.due("sold to " + to, x.sell(0, to, 1), other);
                s.due("who has it then", x.receipt(0, 1), to);
                s.due("who pays", x.account(to), -1);
                s.due("who is paid", x.account(other), 1);
            }
        });
        s.edge("`cents`: 0 to 10000000", () -> {
            for (int cents : new int[] {0, 1, 9999999, 10000000}) {
                Grainledger x = Recipes.withReceipts(100);
                x.sell(0, 1, cents);
                s.due("paid", x.account(0), cents);
                s.due("by the other", x.account(1), -cents);
            }
        });
        s.edge("Returns the holder before.", () -> {
            Grainledger x = Recipes.withSilos(1000);
            x.deliver(5, 0, 100, 140);
            s.due("the first", x.sell(0, 0, 0), 5);
            s.due("the second", x.sell(0, 5, 0), 0);
            x.pledge(0, 2, 0, 0);
            x.pass(1);
            s.due("one to whom it was pledged", x.sell(0, 3, 0), 2);
        });
        s.edge(NO_RECEIPT, () -> {
            Grainledger x = Recipes.withReceipts(100, 200);
            noReceipts(a -> x.sell(a, 3, 1), x);
            s.due("nothing is paid", x.account(3), 0);
        });
        s.edge(RANGE + "to or cents is out of range", () -> {
            Grainledger x = Recipes.withReceipts(100);
            refusesRange("to", a -> x.sell(0, a, 1), -1, 6);
            refusesRange("cents", a -> x.sell(0, 1, a), -1, 10000001);
            s.due("nothing is paid", x.account(0), 0);
        });
        s.edge(STATE + "it is not LIVE, is pledged, or to is its holder", () -> {
            Grainledger x = Recipes.withReceipts(100, 100, 100);
            x.takeOut(0);
            x.pledge(1, 2, 0, 0);
            s.noState("not LIVE", () -> x.sell(0, 1, 0));
            s.noState("pledged", () -> x.sell(1, 1, 0));
            s.noState("to its holder", () -> x.sell(2, 0, 0));
            s.due("none of these", x.sell(2, 1, 0), 0);
            s.noState("to its holder, who is another one now", () -> x.sell(2, 1, 0));
        });
    }

    // ---- Promise 7
    private static void pledge() {
        s.under("Promise 7");
        s.plain("Pledges a receipt.");
        s.edge(RECEIPT, () -> {
            Grainledger x = Recipes.withReceipts(100, 200);
            numbersOfReceipts(a -> x.pledge(a, 3, 1, 2), x, 2, 2);
            s.due("the first", x.receipt(0, 4), 3);
            s.due("the last", x.receipt(1, 4), 3);
        });
        s.edge("`to`: 0 to 5: who pays the sum", () -> {
            for (int to = 0; to < 6; to++) {
                int other = to == 0 ? 5 : 0;
                Grainledger x = Recipes.withSilos(1000);
                x.deliver(other, 0, 100, 140);
                x.pledge(0, to, 1, 0);
                s.due("pledged to", x.receipt(0, 4), to);
                s.due("its holder is the same", x.receipt(0, 1), other);
                s.due("who pays", x.account(to), -1);
                s.due("who is paid", x.account(other), 1);
            }
        });
        s.edge("`cents`: 0 to 10000000", () -> {
            for (int cents : new int[] {0, 1, 9999999, 10000000}) {
                Grainledger x = Recipes.withReceipts(100);
                x.pledge(0, 1, cents, 0);
                s.due("the sum", x.receipt(0, 5), cents);
                s.due("paid", x.account(0), cents);
                s.due("by the other", x.account(1), -cents);
            }
        });
        s.edge("`days`: 0 to 100: how many days from today on it can be redeemed, today not counted",
                EdgesOfCallsTest::daysToRedeem);
        s.edge("Returns the last day to redeem it.", () -> {
            Grainledger x = Recipes.withReceipts(100, 100, 100);
            x.pass(7);
            s.due("today", x.pledge(0, 1, 0, 0), 7);
            s.due("the next day", x.pledge(1, 1, 0, 1), 8);
            s.due("the hundredth day", x.pledge(2, 1, 0, 100), 107);
            s.due("as it is told", x.receipt(2, 6), 107);
        });
        s.edge(NO_RECEIPT, () -> {
            Grainledger x = Recipes.withReceipts(100, 200);
            noReceipts(a -> x.pledge(a, 3, 1, 1), x);
            s.due("nothing is paid", x.account(3), 0);
        });
        s.edge(RANGE + "to, cents or days is out of range", () -> {
            Grainledger x = Recipes.withReceipts(100);
            refusesRange("to", a -> x.pledge(0, a, 1, 1), -1, 6);
            refusesRange("cents", a -> x.pledge(0, 1, a, 1), -1, 10000001);
            refusesRange("days", a -> x.pledge(0, 1, 1, a), -1, 101);
            s.due("nothing is paid", x.account(0), 0);
        });
        s.edge(STATE + "it is not LIVE, is pledged, or to is its holder", () -> {
            Grainledger x = Recipes.withReceipts(100, 100, 100);
            x.takeOut(0);
            x.pledge(1, 2, 0, 0);
            s.noState("not LIVE", () -> x.pledge(0, 1, 0, 0));
            s.noState("pledged", () -> x.pledge(1, 1, 0, 0));
            s.noState("pledged to that one", () -> x.pledge(1, 2, 0, 0));
            s.noState("to its holder", () -> x.pledge(2, 0, 0, 0));
            s.due("none of these", x.pledge(2, 1, 0, 0), 0);
        });
    }

    private static void daysToRedeem() {
        for (int days : new int[] {0, 1, 99, 100}) {
            Grainledger early = Recipes.withReceipts(100);
            Grainledger late = Recipes.withReceipts(100);
            early.pledge(0, 1, 9, days);
            late.pledge(0, 1, 9, days);
            for (int day = 0; day < days; day++) {
                early.pass(1);
                late.pass(1);
            }
            s.due(days + " days behind", early.redeem(0), 9);
            late.pass(1);
            s.noState("one day more than " + days, () -> late.redeem(0));
        }
    }

    // ---- Promise 8
    private static void redeem() {
        s.under("Promise 8");
        s.plain("Redeems a receipt.");
        s.edge(RECEIPT, () -> {
            Grainledger x = Recipes.withReceipts(100, 200);
            x.pledge(0, 1, 8, 0);
            x.pledge(1, 1, 9, 0);
            numbersOfReceipts(x::redeem, x, 8, 9);
        });
        s.edge("Returns what is paid back.", () -> {
            for (int cents : new int[] {0, 1, 10000000}) {
                Grainledger x = Recipes.withReceipts(100);
                x.pledge(0, 1, cents, 0);
                s.due("the sum", x.redeem(0), cents);
                s.due("the holder has paid it back", x.account(0), 0);
                s.due("to the other", x.account(1), 0);
            }
        });
        s.edge(NO_RECEIPT, () -> {
            Grainledger x = Recipes.withReceipts(100, 200);
            noReceipts(x::redeem, x);
        });
        s.edge(STATE + "it is not pledged", () -> {
            Grainledger x = Recipes.withReceipts(100);
            s.noState("never pledged", () -> x.redeem(0));
            x.pledge(0, 1, 9, 0);
            x.redeem(0);
            s.noState("redeemed", () -> x.redeem(0));
            x.pledge(0, 1, 9, 0);
            x.pass(1);
            s.noState("behind its day", () -> x.redeem(0));
            x.takeOut(0);
            s.noState("taken out", () -> x.redeem(0));
            s.due("paid once", x.account(0), 9);
        });
    }

    // ---- Promise 9
    private static void takeOut() {
        s.under("Promise 9");
        s.plain("Takes a receipt out.");
        s.edge(RECEIPT, () -> {
            Grainledger x = Recipes.withReceipts(100, 200);
            numbersOfReceipts(x::takeOut, x, 100, 200);
        });
        s.edge("Returns the kilograms.", () -> {
            Grainledger x = Recipes.withReceipts(1, 39999);
            s.due("the least", x.takeOut(0), 1);
            s.due("what is left in the silo", x.ofSilo(0, 0), 39999);
            s.due("all else", x.takeOut(1), 39999);
            s.due("the most", Recipes.withReceipts(40000).takeOut(0), 40000);
        });
        s.edge(NO_RECEIPT, () -> {
            Grainledger x = Recipes.withReceipts(100, 200);
            noReceipts(x::takeOut, x);
            s.due("nothing is taken out", x.ofSilo(0, 0), 300);
        });
        s.edge(STATE + "it is not LIVE, or is pledged", () -> {
            Grainledger x = Recipes.withReceipts(100, 100);
            x.takeOut(0);
            s.noState("not LIVE", () -> x.takeOut(0));
            x.pledge(1, 1, 0, 0);
            s.noState("pledged", () -> x.takeOut(1));
            x.pass(1);
            s.due("pledged no more", x.takeOut(1), 100);
        });
    }

    // ---- Promise 10
    private static void reweigh() {
        s.under("Promise 10");
        s.plain("Tells the moisture of a delivery anew.");
        s.edge("`delivery`: the number of a delivery", () -> {
            Grainledger x = Recipes.full();
            s.due("the first", x.reweigh(0, 300), -87);
            s.due("the last", x.reweigh(39, 300), -87);
            s.due("of the first", x.delivery(0, 0), 813);
            s.due("of the last", x.delivery(39, 0), 813);
            s.due("not of the one between", x.delivery(38, 0), 900);
        });
        s.edge("`moisture`: 50 to 300", () -> {
            int[][] table = {{50, 100}, {51, 100}, {299, -85}, {300, -87}};
            for (int[] row : table) {
                Grainledger x = Recipes.withSilos(1000);
                x.deliver(0, 0, 1000, 226);
                s.due("told anew at " + row[0], x.reweigh(0, row[0]), row[1]);
            }
        });
        s.edge("Returns the dry weight then, less that before.", () -> {
            Grainledger x = Recipes.withReceipts(40000);
            s.due("the most below", x.reweigh(0, 300), 32558 - 40000);
            s.due("the same", x.reweigh(0, 300), 0);
            s.due("the most above", x.reweigh(0, 50), 40000 - 32558);
            s.due("the same", x.reweigh(0, 140), 0);
            Grainledger small = Recipes.withReceipts(100);
            s.due("one below", small.reweigh(0, 141), -1);
            s.due("one above", small.reweigh(0, 140), 1);
        });
        s.edge("Throws `IndexOutOfBoundsException` if there is no such delivery", () -> {
            Grainledger x = Recipes.withReceipts(100, 200, 300);
            refusesIndex("delivery", a -> x.reweigh(a, 300), -1, 1, 2, 40);
            refusesIndex("without deliveries", a -> new Grainledger().reweigh(a, 300), 0, -1);
        });
        s.edge(RANGE + "moisture is out of range", () -> {
            Grainledger x = Recipes.withReceipts(1000);
            refusesRange("moisture", a -> x.reweigh(0, a), 49, 301, 0, -1, 1000);
            s.due("the dry weight is the same", x.delivery(0, 0), 1000);
        });
        s.edge(STATE + "a receipt would have to be made, and there are 80", EdgesOfCallsTest::noReceiptToBeMade);
    }

    private static void noReceiptToBeMade() {
        Grainledger x = Recipes.withSilos(1000000);
        x.deliver(0, 0, 1000, 226);
        for (int i = 1; i < 79; i++) {
            x.split(0, 1);
        }
        s.due("there are 79", x.reweigh(0, 225), 1);
        s.noState("there are 80, and it is a kilogram more", () -> x.reweigh(0, 224));
        s.noState("there are 80, and it is far more", () -> x.reweigh(0, 140));
        s.due("the same needs none", x.reweigh(0, 225), 0);
        s.due("less needs none", x.reweigh(0, 300), 813 - 901);
        s.noState("more again does", () -> x.reweigh(0, 225));
        s.due("the dry weight is the same", x.delivery(0, 0), 813);
        for (int i = 0; i < 80; i++) {
            Checks.outcome(takeOutOf(x, i));
        }
        s.due("of an empty silo it needs none", x.reweigh(0, 225), 901 - 813);
    }

    private static Checks.Call takeOutOf(Grainledger x, int receipt) {
        return () -> x.takeOut(receipt);
    }

    // ---- Promise 11
    private static void contract() {
        s.under("Promise 11");
        s.plain("Makes a contract.");
        s.edge("`seller`: 0 to 5", () -> {
            for (int seller = 0; seller < 6; seller++) {
                Grainledger x = new Grainledger();
                x.contract(seller, seller == 5 ? 0 : 5, 0, 0, 1, 1, 0);
                x.pass(1);
                s.due("the seller pays the penalty", x.account(seller), -5);
            }
        });
        s.edge("`buyer`: 0 to 5, another one", () -> {
            for (int buyer = 0; buyer < 6; buyer++) {
                int itself = buyer;
                Grainledger x = new Grainledger();
                s.noRange("not another one", () -> x.contract(itself, itself, 0, 0, 1, 1, 0));
                x.contract(buyer == 5 ? 0 : 5, buyer, 0, 0, 1, 1, 0);
                x.pass(1);
                s.due("the buyer is paid the penalty", x.account(buyer), 5);
            }
        });
        s.edge("`grain`: 0 to 2", EdgesOfCallsTest::grainOfAContract);
        s.edge("`grade`: 0 to 2", EdgesOfCallsTest::gradeOfAContract);
        s.edge("`kilograms`: 1 to 100000", () -> {
            for (int kilograms : new int[] {1, 2, 99999, 100000}) {
                Grainledger x = new Grainledger();
                x.contract(0, 1, 0, 0, kilograms, 1, 0);
                x.pass(1);
                s.due("missing", x.ofContract(0, 3), kilograms);
            }
        });
        s.edge("`days`: 1 to 100: for the day so many days from today", () -> {
            Grainledger x = new Grainledger();
            x.pass(3);
            int[] days = {1, 2, 99, 100};
            for (int i = 0; i < days.length; i++) {
                x.contract(0, 1, 0, 0, 1, days[i], 0);
                s.due("its day", x.ofContract(i, 0), 3 + days[i]);
            }
            x.pass(1);
            s.due("the first is settled on its day", x.ofContract(0, 1), 1);
            s.due("the second is not", x.ofContract(1, 1), 0);
        });
        s.edge("`price`: 0 to 1000", () -> {
            for (int price : new int[] {0, 1, 999, 1000}) {
                Grainledger x = Recipes.withReceipts(100);
                x.contract(0, 1, 0, 0, 100, 1, price);
                x.pass(1);
                s.due("paid", x.account(0), 100L * price);
            }
        });
        s.edge("Returns its number, from 0 on.", () -> {
            Grainledger x = new Grainledger();
            for (int i = 0; i < 30; i++) {
                s.due("contract", x.contract(0, 1, 0, 0, 1, 1 + i % 2, 0), i);
            }
        });
        s.edge(RANGE + "an argument is out of range", EdgesOfCallsTest::noSuchContract);
        s.edge(STATE + "there are 30", () -> {
            Grainledger x = new Grainledger();
            for (int i = 0; i < 29; i++) {
                x.contract(0, 1, 0, 0, 1, 1, 0);
            }
            s.due("there are 29", x.contract(0, 1, 0, 0, 1, 1, 0), 29);
            s.noState("there are 30", () -> x.contract(0, 1, 0, 0, 1, 1, 0));
            x.pass(1);
            s.noState("settled, they count still", () -> x.contract(0, 1, 0, 0, 1, 1, 0));
        });
    }

    private static void grainOfAContract() {
        for (int grain = 0; grain < 3; grain++) {
            Grainledger x = Recipes.withSilos(1000, 1000, 1000);
            for (int i = 0; i < 3; i++) {
                x.deliver(0, i, 100, 140);
            }
            x.contract(0, 1, grain, 0, 1000, 1, 0);
            x.pass(1);
            for (int i = 0; i < 3; i++) {
                s.due("for " + grain + ", of " + i, x.receipt(i, 1), i == grain ? 1 : 0);
            }
        }
    }

    private static void gradeOfAContract() {
        for (int grade = 0; grade < 3; grade++) {
            Grainledger x = Recipes.withSilos(1000, 1000, 1000);
            x.deliver(0, 0, 100, 140);
            x.deliver(0, 0, 100, 180);
            x.deliver(0, 0, 100, 300);
            x.contract(0, 1, 0, grade, 1000, 1, 0);
            x.pass(1);
            for (int i = 0; i < 3; i++) {
                s.due("for " + grade + ", of " + i, x.receipt(i, 1), i == grade ? 1 : 0);
            }
        }
    }

    private static void noSuchContract() {
        Grainledger x = new Grainledger();
        refusesRange("seller", a -> x.contract(a, 1, 0, 0, 1, 1, 0), -1, 6);
        refusesRange("buyer", a -> x.contract(0, a, 0, 0, 1, 1, 0), -1, 6, 0);
        refusesRange("grain", a -> x.contract(0, 1, a, 0, 1, 1, 0), -1, 3);
        refusesRange("grade", a -> x.contract(0, 1, 0, a, 1, 1, 0), -1, 3);
        refusesRange("kilograms", a -> x.contract(0, 1, 0, 0, a, 1, 0), 0, -1, 100001);
        refusesRange("days", a -> x.contract(0, 1, 0, 0, 1, a, 0), 0, -1, 101);
        refusesRange("price", a -> x.contract(0, 1, 0, 0, 1, 1, a), -1, 1001);
        s.noIndex("none was made", () -> x.ofContract(0, 0));
    }

    // ---- Promise 12
    private static void pass() {
        s.under("Promise 12");
        s.plain("Lets days pass.");
        s.edge("`days`: 1 to 30", () -> {
            for (int days : new int[] {1, 2, 29, 30}) {
                s.due("days", new Grainledger().pass(days), days);
            }
        });
        s.edge("Returns today.", () -> {
            Grainledger x = new Grainledger();
            s.due("the first", x.pass(1), 1);
            s.due("30 more", x.pass(30), 31);
            s.due("one more", x.pass(1), 32);
        });
        s.edge(RANGE + "days is out of range", () -> {
            Grainledger x = new Grainledger();
            refusesRange("days", x::pass, 0, -1, 31);
            s.due("no day has passed", x.pass(1), 1);
        });
    }
}
