import java.io.IOException;

/** Promises 13 to 22: each sentence that names an edge has a test of its own. */
public final class EdgesOfAnswersTest {
    private static final int MIN = Integer.MIN_VALUE;
    private static final int MAX = Integer.MAX_VALUE;
    private static final String NO_WHAT = "Throws `IllegalArgumentException` if what is out of range";
    private static final String NO_RECEIPT = "Throws `IndexOutOfBoundsException` if there is no such receipt";
    private static final String NO_SILO = "Throws `IndexOutOfBoundsException` if there is no such silo";
    private static final String NO_HOLDER = "Throws `IndexOutOfBoundsException` if there is no such holder";
    private static Sentences s;

    /** A call of which one argument is looked at. */
    private interface CallOfOne {
        long run(int argument);
    }

    public static void main(String[] args) throws IOException {
        s = new Sentences();
        receipt();
        receipts();
        delivery();
        ofContract();
        ofSilo();
        contentAnew();
        account();
        owes();
        holds();
        ownerOn();
        s.end();
    }

    private static void refusesRange(String what, CallOfOne call, int... arguments) {
        for (int argument : arguments) {
            s.noRange(what + " " + argument, () -> call.run(argument));
        }
        s.noRange(what + " " + MIN, () -> call.run(MIN));
        s.noRange(what + " " + MAX, () -> call.run(MAX));
    }

    private static void refusesIndex(String what, CallOfOne call, int... arguments) {
        for (int argument : arguments) {
            s.noIndex(what + " " + argument, () -> call.run(argument));
        }
        s.noIndex(what + " " + MIN, () -> call.run(MIN));
        s.noIndex(what + " " + MAX, () -> call.run(MAX));
    }

    private static void answers(String what, CallOfOne call, long... want) {
        for (int i = 0; i < want.length; i++) {
            s.due(what + " " + i, call.run(i), want[i]);
        }
    }

    // ---- Promise 13
    private static void receipt() {
        s.under("Promise 13");
        s.plain("Tells of a receipt.");
        s.edge("`receipt`: the number of a receipt", () -> {
            Grainledger x = Recipes.withManyReceipts(80, 1000);
            s.due("the first", x.receipt(0, 0), 921);
            s.due("the last", x.receipt(79, 0), 1);
        });
        s.edge("`what`: 0 its kilograms, 1 its holder, 2 its silo, 3 its delivery, 4 to whom it is pledged, 5 the sum, "
                + "6 the last day to redeem it, 7 its contract; 4 to 7 NONE without", EdgesOfAnswersTest::whatOfAReceipt);
        s.edge("Returns as told; the holder of one that is not LIVE is the last one.", () -> {
            Grainledger x = Recipes.withReceipts(70, 930);
            x.sell(0, 4, 0);
            x.sell(1, 5, 0);
            x.pledge(1, 3, 0, 0);
            x.pass(1);
            x.takeOut(1);
            x.reweigh(0, 200);
            s.due("nothing by a weight told anew", x.receipt(0, 0), 0);
            s.due("its last holder", x.receipt(0, 1), 4);
            s.due("taken out", x.receipt(1, 0), 0);
            s.due("its last holder", x.receipt(1, 1), 3);
            x.pass(30);
            s.due("later too", x.receipt(1, 1), 3);
        });
        s.edge(NO_RECEIPT, () -> {
            Grainledger x = Recipes.withReceipts(100, 200);
            refusesIndex("receipt", a -> x.receipt(a, 0), -1, 2, 3, 80);
            refusesIndex("without receipts", a -> new Grainledger().receipt(a, 0), 0, -1);
        });
        s.edge(NO_WHAT, () -> {
            Grainledger x = Recipes.withReceipts(100);
            refusesRange("what", a -> x.receipt(0, a), -1, 8);
        });
    }

    private static void whatOfAReceipt() {
        Grainledger x = Recipes.withSilos(50, 1000);
        x.deliver(1, 0, 100, 140);
        x.deliver(5, 0, 200, 140);
        answers("without, what", what -> x.receipt(1, what), 200, 5, 1, 1, -1, -1, -1, -1);
        x.contract(5, 4, 0, 0, 150, 1, 0);
        x.contract(5, 3, 0, 0, 50, 1, 0);
        x.pass(1);
        x.pledge(2, 0, 0, 0);
        answers("with nothing for a sum, what", what -> x.receipt(2, what), 150, 4, 1, 1, 0, 0, 1, 0);
        x.pledge(1, 2, 10000000, 100);
        answers("with all, what", what -> x.receipt(1, what), 50, 3, 1, 1, 2, 10000000, 101, 1);
        x.redeem(1);
        answers("redeemed, what", what -> x.receipt(1, what), 50, 3, 1, 1, -1, -1, -1, 1);
        x.pass(1);
        answers("the other's, what", what -> x.receipt(2, what), 150, 0, 1, 1, -1, -1, -1, -1);
        answers("the first, what", what -> x.receipt(0, what), 100, 1, 1, 0, -1, -1, -1, -1);
    }

    // ---- Promise 14
    private static void receipts() {
        s.under("Promise 14");
        s.edge("Returns how many receipts there are.", () -> {
            Grainledger x = Recipes.withSilos(1000);
            s.due("none", x.receipts(), 0);
            x.deliver(0, 0, 1000, 226);
            s.due("one", x.receipts(), 1);
            for (int i = 2; i <= 78; i++) {
                x.split(0, 1);
                s.due("by splits", x.receipts(), i);
            }
            x.reweigh(0, 225);
            s.due("told anew", x.receipts(), 79);
            x.contract(0, 1, 0, 2, 1, 1, 0);
            x.takeOut(1);
            x.pass(1);
            s.due("split to be handed over", x.receipts(), 80);
            for (int i = 0; i < 80; i++) {
                Checks.outcome(takeOutOf(x, i));
            }
            s.due("none is LIVE", x.receipts(), 80);
        });
    }

    private static Checks.Call takeOutOf(Grainledger x, int receipt) {
        return () -> x.takeOut(receipt);
    }

    // ---- Promise 15
    private static void delivery() {
        s.under("Promise 15");
        s.plain("Tells of a delivery.");
        s.edge("`delivery`: the number of a delivery", () -> {
            Grainledger x = Recipes.full();
            s.due("the first", x.delivery(0, 3), 0);
            s.due("the last", x.delivery(39, 3), 3);
        });
        s.edge("`what`: 0 its dry weight by now, 1 its grade, 2 its silo, 3 its holder", () -> {
            Grainledger x = Recipes.withSilos(80, 1000);
            x.deliver(5, 2, 100, 300);
            answers("what", what -> x.delivery(0, what), 81, 2, 1, 5);
            x.sell(0, 1, 0);
            x.terms(5000, 0, 0);
            x.pass(1);
            answers("sold and shrunk, what", what -> x.delivery(0, what), 81, 2, 1, 5);
            x.reweigh(0, 140);
            answers("told anew, what", what -> x.delivery(0, what), 100, 2, 1, 5);
            x.takeOut(0);
            x.takeOut(1);
            answers("taken out, what", what -> x.delivery(0, what), 100, 2, 1, 5);
        });
        s.plain("Returns as told.");
        s.edge("Throws `IndexOutOfBoundsException` if there is no such delivery", () -> {
            Grainledger x = Recipes.withReceipts(100, 200);
            refusesIndex("delivery", a -> x.delivery(a, 0), -1, 1, 2, 40);
            refusesIndex("without deliveries", a -> new Grainledger().delivery(a, 0), 0, -1);
        });
        s.edge(NO_WHAT, () -> {
            Grainledger x = Recipes.withReceipts(100);
            refusesRange("what", a -> x.delivery(0, a), -1, 4);
        });
    }

    // ---- Promise 16
    private static void ofContract() {
        s.under("Promise 16");
        s.plain("Tells of a contract.");
        s.edge("`contract`: the number of a contract", () -> {
            Grainledger x = Recipes.full();
            x.pass(2);
            s.due("the first", x.ofContract(0, 2) + x.ofContract(0, 3), 1);
            s.due("the last", x.ofContract(29, 2) + x.ofContract(29, 3), 2901);
        });
        s.edge("`what`: 0 its day, 1 1 if it is settled, otherwise 0, 2 how many kilograms are handed over by now "
                + "(they are fewer by weights told anew alone), 3 how many are missing",
                EdgesOfAnswersTest::whatOfAContract);
        s.edge("Returns as told; 2 and 3 are 0 ahead of settling.", () -> {
            Grainledger x = Recipes.withReceipts(60);
            x.contract(0, 1, 0, 0, 100, 2, 0);
            answers("when it was made, what", what -> x.ofContract(0, what), 2, 0, 0, 0);
            x.pass(1);
            answers("a day ahead, what", what -> x.ofContract(0, what), 2, 0, 0, 0);
            x.pass(1);
            answers("settled, what", what -> x.ofContract(0, what), 2, 1, 60, 40);
        });
        s.edge("Throws `IndexOutOfBoundsException` if there is no such contract", () -> {
            Grainledger x = new Grainledger();
            refusesIndex("without contracts", a -> x.ofContract(a, 0), 0, -1);
            x.contract(0, 1, 0, 0, 1, 1, 0);
            refusesIndex("contract", a -> x.ofContract(a, 0), -1, 1, 2, 30);
        });
        s.edge(NO_WHAT, () -> {
            Grainledger x = new Grainledger();
            x.contract(0, 1, 0, 0, 1, 1, 0);
            refusesRange("what", a -> x.ofContract(0, a), -1, 4);
        });
    }

    private static void whatOfAContract() {
        Grainledger x = Recipes.withReceipts(1000);
        x.contract(0, 1, 0, 0, 1000, 1, 0);
        x.contract(0, 1, 0, 0, 5, 2, 0);
        x.pass(2);
        answers("all is handed over, what", what -> x.ofContract(0, what), 1, 1, 1000, 0);
        answers("all is missing, what", what -> x.ofContract(1, what), 2, 1, 0, 5);
        x.terms(5000, 0, 0);
        x.pass(1);
        x.split(0, 50);
        x.pledge(1, 2, 0, 0);
        x.pass(1);
        x.takeOut(1);
        answers("not fewer by shrinkage, pledges, splits, what is out", what -> x.ofContract(0, what), 1, 1, 1000, 0);
        x.reweigh(0, 141);
        answers("fewer by a weight told anew", what -> x.ofContract(0, what), 1, 1, 998, 2);
        x.reweigh(0, 140);
        answers("and not more by one", what -> x.ofContract(0, what), 1, 1, 998, 2);
    }

    // ---- Promise 17
    private static void ofSilo() {
        s.under("Promise 17");
        s.plain("Tells of a silo.");
        s.edge("`silo`: the number of a silo", () -> {
            Grainledger x = Recipes.withSilos(100, 1000, 1000, 1000, 1000, 1000);
            x.deliver(0, 0, 100, 140);
            for (int grade = 1; grade < 6; grade++) {
                x.deliver(0, grade / 3 + 1, 100 + grade, new int[] {140, 180, 300}[grade % 3]);
            }
            s.due("the first", x.ofSilo(0, 0), 100);
            s.due("the last", x.ofSilo(5, 0), x.delivery(5, 0));
            s.due("the last is of the last delivery", x.delivery(5, 2), 5);
        });
        s.edge("`what`: 0 its content, 1 its grain, 2 its grade (1, 2: NONE, if it is empty), 3 how much it has lost by "
                + "shrinkage in all", EdgesOfAnswersTest::whatOfASilo);
        s.plain("Returns as told.");
        s.edge(NO_SILO, () -> {
            Grainledger x = Recipes.withSilos(100, 100);
            refusesIndex("silo", a -> x.ofSilo(a, 0), -1, 2, 3, 6);
            refusesIndex("without silos", a -> new Grainledger().ofSilo(a, 0), 0, -1);
        });
        s.edge(NO_WHAT, () -> {
            Grainledger x = Recipes.withSilos(100);
            refusesRange("what", a -> x.ofSilo(0, a), -1, 4);
        });
    }

    private static void whatOfASilo() {
        Grainledger x = Recipes.withSilos(1000);
        answers("empty, what", what -> x.ofSilo(0, what), 0, -1, -1, 0);
        x.deliver(0, 2, 1000, 300);
        answers("full, what", what -> x.ofSilo(0, what), 813, 2, 2, 0);
        x.terms(5000, 0, 0);
        x.pass(1);
        answers("shrunk, what", what -> x.ofSilo(0, what), 773, 2, 2, 40);
        x.pass(1);
        answers("shrunk twice, what", what -> x.ofSilo(0, what), 735, 2, 2, 78);
        x.split(0, 1);
        x.takeOut(0);
        answers("a kilogram, what", what -> x.ofSilo(0, what), 1, 2, 2, 78);
        x.takeOut(1);
        answers("emptied, what", what -> x.ofSilo(0, what), 0, -1, -1, 78);
        x.deliver(0, 0, 100, 140);
        answers("of another grain, what", what -> x.ofSilo(0, what), 100, 0, 0, 78);
        x.pass(1);
        answers("lost in all, what", what -> x.ofSilo(0, what), 95, 0, 0, 83);
        x.reweigh(1, 200);
        answers("what is told anew is not lost, what", what -> x.ofSilo(0, what), 88, 0, 0, 83);
    }

    // ---- Promise 18
    private static void contentAnew() {
        s.under("Promise 18");
        s.edge("Returns the content of a silo, found from all LIVE receipts.", () -> {
            Grainledger x = Recipes.withManyReceipts(79, 1000);
            x.silo(1000);
            s.due("empty", x.contentAnew(1), 0);
            x.deliver(0, 1, 300, 140);
            s.due("of many", x.contentAnew(0), 1000);
            s.due("of one", x.contentAnew(1), 300);
            x.takeOut(0);
            s.due("of single kilograms", x.contentAnew(0), 78);
            x.takeOut(79);
            s.due("emptied", x.contentAnew(1), 0);
            x.terms(5000, 0, 0);
            x.pass(1);
            s.due("shrunk by 3", x.contentAnew(0), 75);
            x.reweigh(0, 200);
            s.due("told anew", x.contentAnew(0), 5);
        });
        s.edge("`silo`: the number of a silo", () -> {
            Grainledger x = Recipes.withSilos(100, 100, 100, 100, 100, 200);
            x.deliver(0, 0, 100, 140);
            x.deliver(0, 0, 200, 140);
            s.due("the first", x.contentAnew(0), 100);
            s.due("the last", x.contentAnew(5), 200);
        });
        s.edge(NO_SILO, () -> {
            Grainledger x = Recipes.withSilos(100, 100);
            refusesIndex("silo", x::contentAnew, -1, 2, 3, 6);
            refusesIndex("without silos", a -> new Grainledger().contentAnew(a), 0, -1);
        });
    }

    // ---- Promise 19
    private static void account() {
        s.under("Promise 19");
        s.edge("Returns an account, in cents.", () -> {
            Grainledger x = Recipes.withReceipts(100);
            s.due("at first", x.account(0), 0);
            for (int i = 0; i < 450; i++) {
                x.sell(0, i % 2 == 0 ? 1 : 2, i % 2 == 0 ? 0 : 10000000);
            }
            s.due("beyond an int", x.account(1), 2250000000L);
            s.due("below an int", x.account(2), -2250000000L);
        });
        s.edge("`holder`: 0 to 5", () -> {
            Grainledger x = Recipes.withReceipts(100);
            x.sell(0, 5, 7);
            answers("account", x::account, 7, 0, 0, 0, 0, -7);
        });
        s.edge(NO_HOLDER, () -> refusesIndex("holder", a -> new Grainledger().account(a), -1, 6, 7));
    }

    // ---- Promise 20
    private static void owes() {
        s.under("Promise 20");
        s.edge("Returns how many kilograms a holder owes.", () -> {
            Grainledger x = Recipes.withSilos(1000000);
            s.due("at first", x.owes(0), 0);
            for (int i = 0; i < 40; i++) {
                x.deliver(0, 0, 40000, 140);
                x.takeOut(i);
                x.reweigh(i, 300);
                s.due("by one delivery more", x.owes(0), 7442 * (i + 1));
            }
            x.reweigh(0, 140);
            s.due("by one fewer", x.owes(0), 7442 * 39);
            for (int i = 1; i < 40; i++) {
                x.reweigh(i, 140);
            }
            s.due("nothing", x.owes(0), 0);
            Grainledger below = Recipes.withSilos(40000);
            below.deliver(0, 0, 40000, 300);
            below.takeOut(0);
            below.reweigh(0, 299);
            s.due("below 0", below.owes(0), -46);
            below.reweigh(0, 140);
            s.due("far below 0", below.owes(0), -7442);
        });
        s.edge("`holder`: 0 to 5", () -> {
            Grainledger x = Recipes.withSilos(1000);
            x.deliver(0, 0, 100, 140);
            x.deliver(5, 0, 200, 140);
            x.takeOut(0);
            x.takeOut(1);
            x.reweigh(0, 300);
            x.reweigh(1, 300);
            answers("owes", x::owes, 19, 0, 0, 0, 0, 38);
        });
        s.edge(NO_HOLDER, () -> refusesIndex("holder", a -> new Grainledger().owes(a), -1, 6, 7));
    }

    // ---- Promise 21
    private static void holds() {
        s.under("Promise 21");
        s.edge("Returns how many kilograms a holder has by LIVE receipts.", () -> {
            Grainledger x = Recipes.withManyReceipts(80, 1000);
            s.due("all", x.holds(0, 0, 0), 1000);
            x.sell(79, 1, 0);
            s.due("one fewer", x.holds(0, 0, 0), 999);
            s.due("one", x.holds(1, 0, 0), 1);
            x.pledge(0, 2, 0, 0);
            s.due("pledged, it is its holder's", x.holds(0, 0, 0), 999);
            x.pass(1);
            s.due("and the other's then", x.holds(0, 0, 0), 78);
            x.takeOut(79);
            s.due("taken out, it is not LIVE", x.holds(1, 0, 0), 0);
            x.takeOut(0);
            s.due("nothing", x.holds(2, 0, 0), 0);
        });
        s.edge("`holder`: 0 to 5", () -> {
            Grainledger x = Recipes.withSilos(1000);
            x.deliver(0, 0, 100, 140);
            x.deliver(5, 0, 200, 140);
            answers("holds", a -> x.holds(a, 0, 0), 100, 0, 0, 0, 0, 200);
        });
        s.edge("`grain`: 0 to 2", () -> {
            Grainledger x = Recipes.withSilos(1000, 1000, 1000);
            x.deliver(0, 2, 300, 140);
            x.deliver(0, 1, 200, 140);
            x.deliver(0, 0, 100, 140);
            answers("of grain", a -> x.holds(0, a, 0), 100, 200, 300);
        });
        s.edge("`grade`: 0 to 2", () -> {
            Grainledger x = Recipes.withSilos(1000, 1000, 1000);
            x.deliver(0, 0, 1000, 300);
            x.deliver(0, 0, 1000, 180);
            x.deliver(0, 0, 1000, 140);
            answers("of grade", a -> x.holds(0, 0, a), 1000, 953, 813);
        });
        s.edge("Returns how many.", () -> {
            Grainledger x = Recipes.withContent(1000000);
            s.due("the most that a silo has", x.holds(0, 0, 0), 1000000);
            s.due("none", x.holds(5, 2, 2), 0);
            s.due("none of a new object", new Grainledger().holds(0, 0, 0), 0);
            Grainledger two = Recipes.withSilos(100, 100);
            two.deliver(0, 0, 100, 140);
            two.deliver(0, 0, 100, 140);
            s.due("of two silos", two.holds(0, 0, 0), 200);
        });
        s.edge(NO_HOLDER, () -> refusesIndex("holder", a -> new Grainledger().holds(a, 0, 0), -1, 6, 7));
        s.edge("Throws `IllegalArgumentException` if grain or grade is out of range", () -> {
            refusesRange("grain", a -> new Grainledger().holds(0, a, 0), -1, 3);
            refusesRange("grade", a -> new Grainledger().holds(0, 0, a), -1, 3);
        });
    }

    // ---- Promise 22
    private static void ownerOn() {
        s.under("Promise 22");
        s.edge("Returns who was the holder of a receipt at the end of a day, followed from its beginning.",
                EdgesOfAnswersTest::followedOwners);
        s.edge("`receipt`: the number of a receipt", () -> {
            Grainledger x = Recipes.withManyReceipts(80, 1000);
            x.sell(79, 3, 0);
            s.due("the first", x.ownerOn(0, 0), 0);
            s.due("the last", x.ownerOn(79, 0), 3);
        });
        s.edge("`day`: 0 to today; as it is now for today", () -> {
            Grainledger x = Recipes.withReceipts(100);
            s.due("day 0, which is today", x.ownerOn(0, 0), 0);
            x.sell(0, 1, 0);
            s.due("sold today", x.ownerOn(0, 0), 1);
            x.sell(0, 2, 0);
            s.due("sold again today", x.ownerOn(0, 0), 2);
            x.pass(30);
            s.due("day 0 at its end", x.ownerOn(0, 0), 2);
            s.due("today", x.ownerOn(0, 30), 2);
            x.sell(0, 3, 0);
            s.due("as it is now", x.ownerOn(0, 30), 3);
            s.due("and was the day ahead", x.ownerOn(0, 29), 2);
        });
        s.edge("Returns the holder; NONE ahead of the day on which it was made.", EdgesOfAnswersTest::aheadOfItsDay);
        s.edge(NO_RECEIPT, () -> {
            Grainledger x = Recipes.withReceipts(100, 200);
            refusesIndex("receipt", a -> x.ownerOn(a, 0), -1, 2, 3, 80);
            refusesIndex("without receipts", a -> new Grainledger().ownerOn(a, 0), 0, -1);
        });
        s.edge("Throws `IllegalArgumentException` if day is out of range", () -> {
            Grainledger x = Recipes.withReceipts(100);
            refusesRange("day", a -> x.ownerOn(0, a), -1, 1);
            x.pass(30);
            refusesRange("day", a -> x.ownerOn(0, a), -1, 31);
        });
    }

    private static void followedOwners() {
        Grainledger x = Recipes.withReceipts(1000);
        x.sell(0, 1, 0);
        x.sell(0, 0, 0);
        x.pass(1);
        x.sell(0, 1, 0);
        x.pass(1);
        x.pledge(0, 2, 0, 1);
        x.pass(2);
        x.contract(2, 3, 0, 0, 1000, 2, 0);
        x.pass(3);
        x.takeOut(0);
        x.pass(1);
        answers("the end of day", day -> x.ownerOn(0, day), 0, 1, 1, 1, 2, 2, 3, 3, 3);
    }

    private static void aheadOfItsDay() {
        Grainledger x = Recipes.withSilos(1000);
        x.pass(1);
        x.deliver(0, 0, 500, 226);
        x.pass(1);
        x.split(0, 100);
        x.sell(1, 1, 0);
        x.pass(1);
        x.reweigh(0, 140);
        x.contract(0, 2, 0, 2, 50, 1, 0);
        x.pass(1);
        answers("delivered, on day", day -> x.ownerOn(0, day), -1, 0, 0, 0, 0);
        answers("split off, on day", day -> x.ownerOn(1, day), -1, -1, 1, 1, 1);
        answers("told anew, on day", day -> x.ownerOn(2, day), -1, -1, -1, 0, 0);
        answers("split to be handed over, on day", day -> x.ownerOn(3, day), -1, -1, -1, -1, 2);
    }
}
