/** Each promise of the document: ordinary inputs, the edges that it names, and wrong inputs. */
public final class PromisesTest {
    private static final int MIN = Integer.MIN_VALUE;
    private static final int MAX = Integer.MAX_VALUE;
    private static final Checks c = new Checks();

    public static void main(String[] args) {
        newObject();
        silo();
        terms();
        deliver();
        deliverChoosesASilo();
        split();
        sell();
        pledge();
        pledgeThatIsNotRedeemed();
        redeem();
        takeOut();
        reweighToMore();
        reweighToLess();
        reweighTakesFromOthers();
        reweighTakesByContract();
        reweighByOneKilogram();
        reweighOfASiloThatIsAnother();
        reweighRefuses();
        contract();
        contractIsSettled();
        contractIsShort();
        contractAtEightyReceipts();
        contractsOneBehindTheOther();
        pass();
        shrinkage();
        shrinkageOfLargeNumbers();
        shrinkageOfOneKilogram();
        dayInItsOrder();
        receiptTells();
        receipts();
        deliveryTells();
        ofContract();
        ofSilo();
        contentAnew();
        account();
        owes();
        holds();
        ownerOn();
        c.end();
    }

    private static Grainledger withSilos(int... rooms) {
        Grainledger x = new Grainledger();
        for (int room : rooms) {
            x.silo(room);
        }
        return x;
    }

    private static Grainledger withEightyReceipts(int holder, int weight) {
        Grainledger x = withSilos(1000000);
        x.deliver(holder, 0, weight, 140);
        for (int i = 1; i < 80; i++) {
            x.split(0, 1);
        }
        c.due("80 receipts", x.receipts(), 80);
        return x;
    }

    // ---- Promise 1
    private static void newObject() {
        Grainledger x = new Grainledger();
        c.due("NONE", Grainledger.NONE, -1);
        c.due("new receipts", x.receipts(), 0);
        c.noIndex("new ofSilo(0, 0)", () -> x.ofSilo(0, 0));
        c.noIndex("new ofContract(0, 0)", () -> x.ofContract(0, 0));
        c.noIndex("new delivery(0, 0)", () -> x.delivery(0, 0));
        for (int holder = 0; holder < 6; holder++) {
            c.due("new account", x.account(holder), 0);
            c.due("new owes", x.owes(holder), 0);
        }
        x.silo(1000);
        x.deliver(0, 0, 1000, 140);
        x.split(0, 100);
        x.sell(1, 1, 0);
        x.contract(3, 4, 2, 2, 7, 1, 9);
        c.due("new pass(1)", x.pass(1), 1);
        c.due("new rate is 0", x.ofSilo(0, 3), 0);
        c.due("new penalty is 5", x.account(4), 35);
        x.takeOut(0);
        x.reweigh(0, 200);
        c.due("new fair price is 20", x.account(1), 70 * 20);
        Grainledger large = withSilos(1000000);
        for (int i = 0; i < 25; i++) {
            large.deliver(0, 0, 40000, 140);
        }
        large.pass(1);
        c.due("new rate is 0 for a full silo too", large.ofSilo(0, 0), 1000000);
    }

    // ---- Promise 2
    private static void silo() {
        Grainledger x = new Grainledger();
        for (int room : new int[] {0, -1, 1000001, MIN, MAX}) {
            c.noRange("silo out of range", () -> x.silo(room));
        }
        c.due("silo(1)", x.silo(1), 0);
        c.due("silo(1000000)", x.silo(1000000), 1);
        for (int i = 2; i < 6; i++) {
            c.due("silo", x.silo(500), i);
        }
        c.noState("a seventh silo", () -> x.silo(500));
        c.noRange("a seventh silo without room", () -> x.silo(0));
        c.due("the sixth silo is empty", x.ofSilo(5, 0), 0);
        c.noIndex("no seventh silo", () -> x.ofSilo(6, 0));
    }

    // ---- Promise 3
    private static void terms() {
        Grainledger x = withSilos(100000);
        int[][] wrong = {{-1, 0, 0}, {5001, 0, 0}, {0, -1, 0}, {0, 1001, 0}, {0, 0, -1}, {0, 0, 1001},
            {MIN, 0, 0}, {MAX, 0, 0}, {0, MIN, 0}, {0, MAX, 0}, {0, 0, MIN}, {0, 0, MAX}};
        x.terms(100, 7, 3);
        for (int[] t : wrong) {
            c.noRange("terms out of range", () -> {
                x.terms(t[0], t[1], t[2]);
                return 0;
            });
        }
        x.deliver(0, 0, 1000, 140);
        x.contract(1, 2, 2, 2, 10, 1, 0);
        x.pass(1);
        c.due("refused terms leave the rate", x.ofSilo(0, 3), 1);
        c.due("refused terms leave the penalty", x.account(2), 30);
        x.terms(5000, 1000, 1000);
        x.contract(1, 2, 2, 2, 10, 1, 0);
        x.pass(1);
        c.due("highest rate", x.ofSilo(0, 3), 1 + 49);
        c.due("highest penalty, for what is settled from now on", x.account(2), 30 + 10000);
        x.sell(0, 3, 0);
        x.reweigh(0, 200);
        c.due("highest fair price", x.account(3), 70 * 1000);
        x.terms(0, 0, 0);
        x.reweigh(0, 250);
        c.due("fair price 0", x.account(3), 70 * 1000);
        x.pass(30);
        c.due("rate 0", x.ofSilo(0, 3), 50);
    }

    // ---- Promise 4
    private static void deliver() {
        Grainledger x = withSilos(1000000, 1000000, 1000000, 1000000);
        int[][] wrong = {{-1, 0, 100, 100}, {6, 0, 100, 100}, {0, -1, 100, 100}, {0, 3, 100, 100},
            {0, 0, 99, 100}, {0, 0, 40001, 100}, {0, 0, 100, 49}, {0, 0, 100, 301},
            {MIN, 0, 100, 100}, {0, MAX, 100, 100}, {0, 0, MAX, 100}, {0, 0, 100, MIN}};
        for (int[] a : wrong) {
            c.noRange("deliver out of range", () -> x.deliver(a[0], a[1], a[2], a[3]));
        }
        c.due("no receipt by what is refused", x.receipts(), 0);
        int[][] right = {{0, 0, 100, 50, 100, 0, 0}, {5, 0, 40000, 140, 40000, 0, 0}, {1, 0, 1000, 141, 998, 1, 1},
            {2, 0, 1000, 180, 953, 1, 1}, {3, 0, 1000, 181, 952, 2, 2}, {4, 2, 40000, 300, 32558, 2, 3}};
        for (int i = 0; i < right.length; i++) {
            int[] a = right[i];
            c.due("deliver", x.deliver(a[0], a[1], a[2], a[3]), i);
            c.due("dry weight of " + i, x.delivery(i, 0), a[4]);
            c.due("grade of " + i, x.delivery(i, 1), a[5]);
            c.due("silo of " + i, x.delivery(i, 2), a[6]);
            c.due("deliverer of " + i, x.delivery(i, 3), a[0]);
            c.due("kilograms of " + i, x.receipt(i, 0), a[4]);
            c.due("holder of " + i, x.receipt(i, 1), a[0]);
            c.due("delivery of " + i, x.receipt(i, 3), i);
        }
        for (int i = 6; i < 40; i++) {
            x.deliver(0, 0, 100, 100);
        }
        c.noState("a delivery more than 40", () -> x.deliver(0, 0, 100, 100));
        c.noRange("a delivery more than 40 without weight", () -> x.deliver(0, 0, 0, 100));
        Grainledger full = withEightyReceipts(0, 1000);
        c.noState("a delivery with 80 receipts", () -> full.deliver(0, 0, 100, 100));
        c.noIndex("no delivery was made", () -> full.delivery(1, 0));
        c.noState("a delivery without silos", () -> new Grainledger().deliver(0, 0, 100, 100));
    }

    private static void deliverChoosesASilo() {
        Grainledger x = withSilos(150, 300, 1000, 300);
        x.deliver(0, 0, 200, 100);
        c.due("the lowest empty one with room", x.delivery(0, 2), 1);
        x.deliver(0, 0, 100, 100);
        c.due("the alike one ahead of a lower empty one", x.delivery(1, 2), 1);
        c.due("filled to its room", x.ofSilo(1, 0), 300);
        x.deliver(0, 0, 100, 100);
        c.due("an empty one, if the alike one is full", x.delivery(2, 2), 0);
        x.deliver(0, 1, 100, 100);
        c.due("another grain is not mixed", x.delivery(3, 2), 2);
        x.deliver(0, 1, 100, 150);
        c.due("another grade is not mixed", x.delivery(4, 2), 3);
        c.noState("no silo is alike", () -> x.deliver(0, 2, 100, 100));
        c.noState("a kilogram too many", () -> x.deliver(0, 0, 100, 100));
        x.deliver(0, 1, 900, 100);
        c.due("all of it has room", x.ofSilo(2, 0), 1000);
        x.takeOut(0);
        x.takeOut(1);
        x.deliver(0, 2, 300, 300);
        c.due("an emptied silo takes another grain", x.delivery(6, 2), 1);
        c.due("its grain", x.ofSilo(1, 1), 2);
        c.due("its grade", x.ofSilo(1, 2), 2);
    }

    // ---- Promise 5
    private static void split() {
        Grainledger x = withSilos(100000);
        x.deliver(2, 1, 40000, 100);
        c.noIndex("split(-1, 1)", () -> x.split(-1, 1));
        c.noIndex("split(1, 1)", () -> x.split(1, 1));
        c.noIndex("no receipt ahead of no kilograms", () -> x.split(1, 0));
        for (int kilograms : new int[] {0, -1, 40001, MIN, MAX}) {
            c.noRange("split out of range", () -> x.split(0, kilograms));
        }
        c.noState("split all", () -> x.split(0, 40000));
        c.due("split all but one", x.split(0, 39999), 1);
        c.due("what is left", x.receipt(0, 0), 1);
        c.due("what is new", x.receipt(1, 0), 39999);
        c.due("its holder", x.receipt(1, 1), 2);
        c.due("its silo", x.receipt(1, 2), 0);
        c.due("its delivery", x.receipt(1, 3), 0);
        c.due("its contract", x.receipt(1, 7), -1);
        c.due("the content is the same", x.ofSilo(0, 0), 40000);
        c.noState("split one kilogram", () -> x.split(0, 1));
        x.contract(2, 3, 1, 0, 1000, 1, 1);
        x.pass(1);
        c.due("the one that was handed over", x.receipt(2, 7), 0);
        c.due("its split", x.split(2, 10), 3);
        c.due("the split has the contract", x.receipt(3, 7), 0);
        c.due("the split has the holder", x.receipt(3, 1), 3);
        x.pledge(3, 1, 5, 5);
        c.noState("split what is pledged", () -> x.split(3, 1));
        x.takeOut(0);
        c.noState("split what is taken out", () -> x.split(0, 1));
        Grainledger full = withEightyReceipts(0, 1000);
        c.noState("split with 80 receipts", () -> full.split(0, 1));
        c.due("refused split takes nothing", full.receipt(0, 0), 921);
    }

    // ---- Promise 6
    private static void sell() {
        Grainledger x = withSilos(1000);
        x.deliver(0, 0, 100, 100);
        c.noIndex("sell(-1, 1, 1)", () -> x.sell(-1, 1, 1));
        c.noIndex("no receipt ahead of no holder", () -> x.sell(1, 6, 1));
        int[][] wrong = {{-1, 0}, {6, 0}, {1, -1}, {1, 10000001}, {MIN, 0}, {MAX, 0}, {1, MIN}, {1, MAX}};
        for (int[] a : wrong) {
            c.noRange("sell out of range", () -> x.sell(0, a[0], a[1]));
        }
        c.noState("sell to its holder", () -> x.sell(0, 0, 1));
        c.noRange("wrong cents ahead of its holder", () -> x.sell(0, 0, -1));
        c.due("sell", x.sell(0, 5, 10000000), 0);
        c.due("who pays has less", x.account(5), -10000000);
        c.due("who is paid has more", x.account(0), 10000000);
        c.due("its holder", x.receipt(0, 1), 5);
        c.due("sell for nothing", x.sell(0, 1, 0), 5);
        x.pledge(0, 2, 3, 4);
        c.noState("sell what is pledged", () -> x.sell(0, 3, 1));
        c.noState("sell what is pledged to the other", () -> x.sell(0, 2, 1));
        x.redeem(0);
        x.takeOut(0);
        c.noState("sell what is taken out", () -> x.sell(0, 3, 1));
        c.due("refused sales pay nothing", x.account(3), 0);
        Grainledger y = withSilos(1000);
        y.deliver(0, 0, 100, 100);
        y.contract(0, 1, 0, 0, 100, 1, 1);
        y.pass(1);
        c.due("handed over", y.receipt(0, 7), 0);
        y.sell(0, 2, 0);
        c.due("sold, it has no contract", y.receipt(0, 7), -1);
        y.sell(0, 1, 0);
        c.due("nor has it when it comes back", y.receipt(0, 7), -1);
    }

    // ---- Promise 7
    private static void pledge() {
        Grainledger x = withSilos(1000);
        x.deliver(0, 0, 100, 100);
        c.noIndex("pledge(-1, 1, 1, 1)", () -> x.pledge(-1, 1, 1, 1));
        c.noIndex("no receipt ahead of no days", () -> x.pledge(1, 1, 1, -1));
        int[][] wrong = {{-1, 0, 0}, {6, 0, 0}, {1, -1, 0}, {1, 10000001, 0}, {1, 0, -1}, {1, 0, 101},
            {MIN, 0, 0}, {MAX, 0, 0}, {1, MIN, 0}, {1, MAX, 0}, {1, 0, MIN}, {1, 0, MAX}};
        for (int[] a : wrong) {
            c.noRange("pledge out of range", () -> x.pledge(0, a[0], a[1], a[2]));
        }
        c.noState("pledge to its holder", () -> x.pledge(0, 0, 1, 1));
        c.noRange("wrong days ahead of its holder", () -> x.pledge(0, 0, 1, 101));
        x.pass(7);
        c.due("pledge for 100 days", x.pledge(0, 3, 10000000, 100), 107);
        c.due("its holder is the same", x.receipt(0, 1), 0);
        c.due("to whom it is pledged", x.receipt(0, 4), 3);
        c.due("the sum", x.receipt(0, 5), 10000000);
        c.due("the last day", x.receipt(0, 6), 107);
        c.due("who pays the sum", x.account(3), -10000000);
        c.due("who is paid the sum", x.account(0), 10000000);
        c.noState("pledge what is pledged", () -> x.pledge(0, 1, 1, 1));
        x.redeem(0);
        c.due("pledge for nothing until today", x.pledge(0, 5, 0, 0), 7);
        c.due("the sum is 0", x.receipt(0, 5), 0);
        x.redeem(0);
        x.takeOut(0);
        c.noState("pledge what is taken out", () -> x.pledge(0, 1, 1, 1));
    }

    private static void pledgeThatIsNotRedeemed() {
        Grainledger x = withSilos(1000);
        x.deliver(0, 0, 500, 100);
        x.contract(0, 1, 0, 0, 500, 1, 1);
        x.pass(1);
        x.pledge(0, 2, 50, 2);
        x.pass(2);
        c.due("its last day is today", x.receipt(0, 1), 1);
        c.due("pledged on its last day", x.receipt(0, 4), 2);
        c.due("its contract is the same", x.receipt(0, 7), 0);
        x.pass(1);
        c.due("the other is its holder", x.receipt(0, 1), 2);
        c.due("pledged no more", x.receipt(0, 4), -1);
        c.due("no sum", x.receipt(0, 5), -1);
        c.due("no last day", x.receipt(0, 6), -1);
        c.due("its contract is no more", x.receipt(0, 7), -1);
        c.due("the sum stays paid", x.account(2), -50);
        c.noState("it is not redeemed behind its day", () -> x.redeem(0));
        c.due("on its last day", x.ownerOn(0, 3), 1);
        c.due("behind it", x.ownerOn(0, 4), 2);
    }

    // ---- Promise 8
    private static void redeem() {
        Grainledger x = withSilos(1000);
        x.deliver(0, 0, 100, 100);
        c.noIndex("redeem(-1)", () -> x.redeem(-1));
        c.noIndex("redeem(1)", () -> x.redeem(1));
        c.noState("redeem what is not pledged", () -> x.redeem(0));
        x.pledge(0, 1, 77, 1);
        x.pass(1);
        c.due("redeem on the last day", x.redeem(0), 77);
        c.due("it is paid back", x.account(1), 0);
        c.due("by its holder", x.account(0), 0);
        c.due("pledged no more", x.receipt(0, 4), -1);
        c.due("no sum", x.receipt(0, 5), -1);
        c.due("no last day", x.receipt(0, 6), -1);
        c.noState("redeem twice", () -> x.redeem(0));
        x.pass(5);
        c.due("redeemed, its holder stays", x.receipt(0, 1), 0);
    }

    // ---- Promise 9
    private static void takeOut() {
        Grainledger x = withSilos(1000);
        x.deliver(0, 2, 300, 200);
        x.split(0, 100);
        c.noIndex("takeOut(-1)", () -> x.takeOut(-1));
        c.noIndex("takeOut(2)", () -> x.takeOut(2));
        x.pledge(1, 4, 1, 3);
        c.noState("take out what is pledged", () -> x.takeOut(1));
        x.redeem(1);
        c.due("takeOut", x.takeOut(1), 100);
        c.due("it has nothing", x.receipt(1, 0), 0);
        c.due("its last holder", x.receipt(1, 1), 0);
        c.due("its silo", x.receipt(1, 2), 0);
        c.due("its delivery", x.receipt(1, 3), 0);
        c.due("the silo has less", x.ofSilo(0, 0), 179);
        c.due("and its grain still", x.ofSilo(0, 1), 2);
        c.noState("take out twice", () -> x.takeOut(1));
        x.contract(0, 3, 2, 2, 179, 1, 0);
        x.pass(1);
        c.due("take out all", x.takeOut(0), 179);
        c.due("it keeps its contract", x.receipt(0, 7), 0);
        c.due("the silo is empty", x.ofSilo(0, 1), -1);
        c.due("the dry weight stays", x.delivery(0, 0), 279);
    }

    // ---- Promise 10
    private static void reweighToMore() {
        Grainledger x = withSilos(1000);
        x.deliver(3, 1, 1000, 226);
        c.due("ahead of it", x.delivery(0, 0), 900);
        x.sell(0, 4, 0);
        x.pass(2);
        c.due("told anew, and more", x.reweigh(0, 140), 100);
        c.due("a new receipt", x.receipts(), 2);
        c.due("for the difference", x.receipt(1, 0), 100);
        c.due("of the one who delivered", x.receipt(1, 1), 3);
        c.due("in that silo", x.receipt(1, 2), 0);
        c.due("of that delivery", x.receipt(1, 3), 0);
        c.due("without contract", x.receipt(1, 7), -1);
        c.due("made today", x.ownerOn(1, 1), -1);
        c.due("the dry weight", x.delivery(0, 0), 1000);
        c.due("the grade stays", x.delivery(0, 1), 2);
        c.due("the content", x.ofSilo(0, 0), 1000);
        c.due("the same moisture again", x.reweigh(0, 50), 0);
        c.due("makes no receipt", x.receipts(), 2);
        c.due("nothing is paid", x.account(3), 0);
        Grainledger tight = withSilos(900);
        tight.deliver(3, 1, 1000, 226);
        tight.takeOut(0);
        tight.deliver(3, 1, 1000, 226);
        c.due("more, whatever the room", tight.reweigh(0, 140), 100);
        c.due("above its room", tight.ofSilo(0, 0), 1000);
        tight.silo(5000);
        tight.deliver(1, 1, 100, 226);
        c.due("no room in a silo above its room", tight.delivery(2, 2), 1);
    }

    private static void reweighToLess() {
        Grainledger x = withSilos(10000);
        x.deliver(0, 0, 1000, 140);
        x.deliver(0, 0, 500, 140);
        x.split(0, 900);
        x.pledge(2, 1, 10, 9);
        c.due("less", x.reweigh(0, 226), -100);
        c.due("of the lowest first", x.receipt(0, 0), 0);
        c.due("not of the others", x.receipt(2, 0), 900);
        c.due("the silo has less", x.ofSilo(0, 0), 1400);
        c.due("the grade stays", x.delivery(0, 1), 0);
        c.due("less again", x.reweigh(0, 300), -87);
        c.due("of the next one, pledged too", x.receipt(2, 0), 813);
        c.due("still pledged", x.receipt(2, 4), 1);
        c.due("by its own nothing is paid", x.account(0), 10);
        x.redeem(2);
        x.takeOut(2);
        c.due("more, as a receipt", x.reweigh(0, 140), 187);
        x.takeOut(3);
        c.due("less, of others of the one who delivered", x.reweigh(0, 300), -187);
        c.due("of that silo", x.receipt(1, 0), 313);
        c.due("nothing is owed", x.owes(0), 0);
        x.split(1, 13);
        x.takeOut(1);
        c.due("more again", x.reweigh(0, 140), 187);
        x.takeOut(5);
        x.pledge(4, 2, 30, 9);
        x.deliver(2, 0, 100, 100);
        c.due("less than there is", x.reweigh(0, 300), -187);
        c.due("all that is left", x.receipt(4, 0), 0);
        c.due("pledged no more", x.receipt(4, 4), -1);
        c.due("no sum", x.receipt(4, 5), -1);
        c.due("no day", x.receipt(4, 6), -1);
        c.due("the rest is owed", x.owes(0), 174);
        c.due("another holder's other delivery stays", x.receipt(6, 0), 100);
        c.due("whatever is owed", x.reweigh(0, 140), 187);
        c.due("a receipt for all of it", x.receipt(7, 0), 187);
        c.due("the debt stays", x.owes(0), 174);
    }

    private static void reweighTakesFromOthers() {
        Grainledger x = withSilos(10000, 10000);
        x.terms(0, 30, 5);
        x.deliver(0, 0, 1000, 140);
        x.split(0, 50);
        x.sell(1, 1, 0);
        x.sell(0, 2, 0);
        x.split(0, 10);
        x.deliver(0, 1, 1000, 140);
        x.takeOut(0);
        c.due("less", x.reweigh(0, 200), -70);
        c.due("the first other", x.receipt(1, 0), 0);
        c.due("is paid the fair price", x.account(1), 1500);
        c.due("the next other", x.receipt(2, 0), 0);
        c.due("is paid too", x.account(2), 300);
        c.due("by the one who delivered", x.account(0), -1800);
        c.due("other silos have no part", x.receipt(3, 0), 1000);
        c.due("the rest is owed", x.owes(0), 10);
        Grainledger y = withSilos(10000);
        y.deliver(0, 0, 1000, 140);
        y.sell(0, 1, 0);
        y.pledge(0, 2, 7, 3);
        y.reweigh(0, 226);
        c.due("a pledged receipt is taken from its holder", y.account(1), 7 + 2000);
        c.due("not from the other", y.account(2), -7);
        c.due("still pledged", y.receipt(0, 4), 2);
    }

    private static void reweighTakesByContract() {
        Grainledger x = withSilos(10000);
        x.deliver(0, 0, 1000, 140);
        x.sell(0, 3, 0);
        x.contract(3, 4, 0, 0, 950, 1, 11);
        x.pass(1);
        c.due("the rest stays with its seller", x.receipt(0, 1), 3);
        c.due("handed over", x.receipt(1, 0), 950);
        c.due("its price", x.account(3), 950 * 11);
        c.due("less", x.reweigh(0, 226), -100);
        c.due("first the lower, at the fair price", x.account(0), -50 * 20);
        c.due("then the one with a contract, by its seller", x.account(3), 950 * 11 + 50 * 20 - 50 * 11);
        c.due("to the holder", x.account(4), -950 * 11 + 50 * 11);
        c.due("less is handed over", x.ofContract(0, 2), 900);
        c.due("more is missing", x.ofContract(0, 3), 50);
        c.due("still settled", x.ofContract(0, 1), 1);
        c.due("it keeps its contract", x.receipt(1, 7), 0);
        Grainledger own = withSilos(10000);
        own.deliver(0, 0, 1000, 140);
        own.sell(0, 1, 0);
        own.contract(1, 0, 0, 0, 1000, 1, 11);
        own.pass(1);
        c.due("the one who delivered is the buyer", own.receipt(0, 7), 0);
        own.reweigh(0, 226);
        c.due("of one's own nothing is paid", own.account(0), -11000);
        c.due("nor is the contract another one", own.ofContract(0, 2), 1000);
        c.due("nor anything missing", own.ofContract(0, 3), 0);
        c.due("but it is taken", own.receipt(0, 0), 900);
    }

    private static void reweighByOneKilogram() {
        Grainledger x = withSilos(10000);
        x.deliver(0, 0, 100, 140);
        x.deliver(0, 0, 100, 140);
        x.split(1, 99);
        x.takeOut(2);
        x.takeOut(0);
        c.due("one kilogram in the silo", x.ofSilo(0, 0), 1);
        c.due("it is not empty", x.ofSilo(0, 1), 0);
        c.due("it is held", x.holds(0, 0, 0), 1);
        c.due("one kilogram less", x.reweigh(0, 141), -1);
        c.due("the last one of another delivery", x.receipt(1, 0), 0);
        c.due("nothing is owed", x.owes(0), 0);
        c.due("the silo is empty", x.ofSilo(0, 1), -1);
        x.deliver(0, 0, 100, 140);
        c.due("one kilogram more", x.reweigh(0, 140), 1);
        c.due("is a receipt", x.receipt(4, 0), 1);
        c.due("which is taken first again", x.reweigh(0, 141), -1);
        c.due("so it has nothing", x.receipt(4, 0), 0);
        c.due("one kilogram less of another", x.reweigh(0, 160), -2);
        c.due("from its receipt", x.receipt(3, 0), 98);
        Grainledger y = withSilos(10000);
        y.deliver(0, 0, 100, 140);
        y.deliver(0, 0, 100, 140);
        y.takeOut(1);
        y.reweigh(1, 200);
        c.due("others of a lower number too", y.receipt(0, 0), 93);
        Grainledger full = withSilos(1000);
        full.deliver(0, 0, 100, 141);
        for (int i = 1; i < 80; i++) {
            full.split(0, 1);
        }
        c.noState("one kilogram more, with 80 receipts", () -> full.reweigh(0, 140));
    }

    private static void reweighOfASiloThatIsAnother() {
        Grainledger x = withSilos(1000);
        x.deliver(0, 0, 1000, 140);
        x.takeOut(0);
        c.due("less, of an empty silo", x.reweigh(0, 226), -100);
        c.due("all is owed", x.owes(0), 100);
        c.due("more, of an empty silo", x.reweigh(0, 140), 100);
        c.due("is owed less", x.owes(0), 0);
        c.due("no receipt", x.receipts(), 1);
        x.deliver(0, 1, 500, 140);
        x.reweigh(0, 226);
        c.due("another grain: owed", x.owes(0), 100);
        c.due("another grain: not taken", x.receipt(1, 0), 500);
        x.takeOut(1);
        x.deliver(0, 0, 500, 141);
        x.reweigh(0, 140);
        c.due("another grade: owed less", x.owes(0), 0);
        c.due("another grade: no receipt", x.receipts(), 3);
        x.reweigh(1, 300);
        c.due("owed by what is less", x.owes(0), 94);
        x.reweigh(1, 140);
        x.takeOut(2);
        x.deliver(1, 2, 100, 226);
        x.deliver(1, 2, 100, 226);
        x.takeOut(3);
        x.takeOut(4);
        x.reweigh(3, 140);
        c.due("owed below 0", x.owes(1), -10);
        x.deliver(4, 0, 800, 140);
        c.due("alike again", x.reweigh(0, 226), -100);
        c.due("nothing of another holder", x.receipt(5, 0), 800);
        c.due("so it is owed", x.owes(0), 100);
        c.due("alike again, and more", x.reweigh(0, 140), 100);
        c.due("a receipt", x.receipt(6, 0), 100);
        c.due("still owed", x.owes(0), 100);
    }

    private static void reweighRefuses() {
        Grainledger x = withEightyReceipts(0, 2000);
        c.noIndex("reweigh(-1, 100)", () -> x.reweigh(-1, 100));
        c.noIndex("reweigh(1, 100)", () -> x.reweigh(1, 100));
        c.noIndex("no delivery ahead of no moisture", () -> x.reweigh(1, 301));
        for (int moisture : new int[] {49, 301, -1, MIN, MAX}) {
            c.noRange("reweigh out of range", () -> x.reweigh(0, moisture));
        }
        c.due("less, with 80 receipts", x.reweigh(0, 300), -373);
        c.noState("more, with 80 receipts", () -> x.reweigh(0, 299));
        c.due("refused, the dry weight stays", x.delivery(0, 0), 1627);
        c.due("refused, the content stays", x.ofSilo(0, 0), 1627);
        c.due("the same, with 80 receipts", x.reweigh(0, 300), 0);
        for (int i = 0; i < 80; i++) {
            x.takeOut(i);
        }
        c.due("more, of an empty silo, with 80 receipts", x.reweigh(0, 140), 373);
        c.due("owed below 0", x.owes(0), -373);
    }

    // ---- Promise 11
    private static void contract() {
        Grainledger x = new Grainledger();
        int[][] wrong = {{-1, 1, 0, 0, 1, 1, 0}, {6, 1, 0, 0, 1, 1, 0}, {0, -1, 0, 0, 1, 1, 0}, {0, 6, 0, 0, 1, 1, 0},
            {0, 0, 0, 0, 1, 1, 0}, {0, 1, -1, 0, 1, 1, 0}, {0, 1, 3, 0, 1, 1, 0}, {0, 1, 0, -1, 1, 1, 0},
            {0, 1, 0, 3, 1, 1, 0}, {0, 1, 0, 0, 0, 1, 0}, {0, 1, 0, 0, 100001, 1, 0}, {0, 1, 0, 0, 1, 0, 0},
            {0, 1, 0, 0, 1, 101, 0}, {0, 1, 0, 0, 1, 1, -1}, {0, 1, 0, 0, 1, 1, 1001}, {0, 1, 0, 0, MIN, 1, 0},
            {0, 1, 0, 0, 1, MAX, 0}, {0, 1, 0, 0, 1, 1, MIN}, {MIN, MAX, MIN, MAX, MIN, MAX, MIN}};
        for (int[] a : wrong) {
            c.noRange("contract out of range", () -> x.contract(a[0], a[1], a[2], a[3], a[4], a[5], a[6]));
        }
        x.pass(3);
        c.due("contract", x.contract(0, 1, 0, 0, 1, 1, 0), 0);
        c.due("the highest", x.contract(5, 4, 2, 2, 100000, 100, 1000), 1);
        c.due("its day", x.ofContract(1, 0), 103);
        for (int i = 2; i < 30; i++) {
            c.due("contract", x.contract(0, 1, 0, 0, 1, 1, 0), i);
        }
        c.noState("a contract more than 30", () -> x.contract(0, 1, 0, 0, 1, 1, 0));
        c.noRange("a contract more than 30 with oneself", () -> x.contract(0, 0, 0, 0, 1, 1, 0));
        c.noIndex("no contract 30", () -> x.ofContract(30, 0));
    }

    private static void contractIsSettled() {
        Grainledger x = withSilos(10000, 10000, 10000);
        x.deliver(0, 0, 100, 140);
        x.deliver(0, 0, 200, 150);
        x.deliver(1, 0, 300, 140);
        x.deliver(0, 0, 400, 140);
        x.deliver(0, 0, 500, 140);
        x.deliver(0, 1, 600, 140);
        x.pledge(3, 5, 0, 100);
        x.contract(0, 2, 0, 0, 450, 2, 10);
        x.pass(1);
        c.due("not ahead of its day", x.ofContract(0, 1), 0);
        x.pass(1);
        c.due("settled", x.ofContract(0, 1), 1);
        c.due("handed over", x.ofContract(0, 2), 450);
        c.due("missing", x.ofContract(0, 3), 0);
        c.due("the buyer's", x.holds(2, 0, 0), 450);
        c.due("the first", x.receipt(0, 1), 2);
        c.due("the first's contract", x.receipt(0, 7), 0);
        c.due("another grade", x.receipt(1, 1), 0);
        c.due("another holder's", x.receipt(2, 1), 1);
        c.due("what is pledged", x.receipt(3, 1), 0);
        c.due("the last one is split", x.receipt(4, 0), 150);
        c.due("what is left stays", x.receipt(4, 1), 0);
        c.due("without contract", x.receipt(4, 7), -1);
        c.due("the new one", x.receipt(6, 0), 350);
        c.due("the new one's holder", x.receipt(6, 1), 2);
        c.due("the new one's contract", x.receipt(6, 7), 0);
        c.due("the new one's delivery", x.receipt(6, 3), 4);
        c.due("another grain", x.receipt(5, 1), 0);
        c.due("the buyer pays", x.account(2), -4500);
        c.due("the seller is paid", x.account(0), 4500);
        x.pass(1);
        c.due("settled once", x.account(0), 4500);
        x.contract(0, 2, 0, 0, 150, 1, 1);
        x.pass(1);
        c.due("all of one is not split", x.receipts(), 7);
        c.due("it is handed over whole", x.receipt(4, 7), 1);
    }

    private static void contractIsShort() {
        Grainledger x = withSilos(100000);
        x.deliver(0, 0, 100, 140);
        x.split(0, 40);
        x.takeOut(0);
        x.terms(0, 20, 7);
        x.contract(0, 1, 0, 0, 100000, 1, 1000);
        x.pass(1);
        c.due("handed over", x.ofContract(0, 2), 40);
        c.due("missing", x.ofContract(0, 3), 99960);
        c.due("price less penalty", x.account(0), 40000 - 99960 * 7);
        c.due("the other way round", x.account(1), -40000 + 99960 * 7);
        c.due("what is not LIVE is not handed over", x.receipt(0, 1), 0);
        c.due("and has no contract", x.receipt(0, 7), -1);
        x.terms(0, 20, 1000);
        x.contract(2, 3, 0, 0, 100000, 1, 0);
        x.pass(1);
        c.due("the highest penalty", x.account(3), 100000000);
        x.deliver(4, 0, 40000, 140);
        x.deliver(4, 0, 40000, 140);
        x.contract(4, 5, 0, 0, 80000, 1, 1000);
        x.pass(1);
        c.due("the highest price", x.account(4), 80000000);
    }

    private static void contractAtEightyReceipts() {
        Grainledger x = withEightyReceipts(0, 1000);
        x.sell(2, 3, 0);
        x.sell(0, 3, 0);
        x.sell(1, 3, 0);
        x.contract(3, 4, 0, 0, 500, 1, 10);
        x.pass(1);
        c.due("it is not split", x.receipts(), 80);
        c.due("it stays", x.receipt(0, 1), 3);
        c.due("and the handing over is at its end", x.receipt(1, 1), 3);
        c.due("nothing is handed over", x.ofContract(0, 2), 0);
        c.due("all is missing", x.ofContract(0, 3), 500);
        x.contract(3, 4, 0, 0, 922, 1, 10);
        x.pass(1);
        c.due("whole ones are handed over", x.ofContract(1, 2), 922);
        c.due("as many as it has", x.receipt(1, 1), 4);
        c.due("and no more", x.receipt(2, 1), 3);
    }

    private static void contractsOneBehindTheOther() {
        Grainledger x = withSilos(10000);
        x.deliver(0, 0, 1000, 140);
        x.contract(0, 1, 0, 0, 600, 2, 1);
        x.contract(1, 2, 0, 0, 600, 2, 2);
        x.contract(0, 3, 0, 0, 600, 1, 3);
        x.pass(2);
        c.due("the earlier day first", x.ofContract(2, 2), 600);
        c.due("then what is left", x.ofContract(0, 2), 400);
        c.due("handed on the same day", x.ofContract(1, 2), 400);
        c.due("with the later contract", x.receipt(0, 7), 1);
        c.due("its holder", x.receipt(0, 1), 2);
        Grainledger y = withSilos(10000);
        y.deliver(0, 0, 1000, 140);
        y.contract(1, 2, 0, 0, 600, 1, 2);
        y.contract(0, 1, 0, 0, 600, 1, 1);
        y.pass(1);
        c.due("by rising numbers", y.ofContract(0, 2), 0);
        c.due("the later one", y.ofContract(1, 2), 600);
        Grainledger z = withSilos(10000);
        z.deliver(0, 0, 1000, 140);
        z.contract(0, 1, 0, 0, 1000, 1, 1);
        z.pass(1);
        z.contract(1, 2, 0, 0, 400, 1, 1);
        z.pass(1);
        c.due("what is left of a split keeps its contract", z.receipt(0, 7), 0);
        c.due("what is handed over has the new one", z.receipt(1, 7), 1);
    }

    // ---- Promise 12
    private static void pass() {
        Grainledger x = new Grainledger();
        for (int days : new int[] {0, -1, 31, MIN, MAX}) {
            c.noRange("pass out of range", () -> x.pass(days));
        }
        c.due("pass(1)", x.pass(1), 1);
        c.due("pass(30)", x.pass(30), 31);
        int day = 31;
        for (int i = 0; i < 480; i++) {
            day += 30;
            c.due("pass(30)", x.pass(30), day);
        }
    }

    private static void shrinkage() {
        Grainledger x = withSilos(10000, 10000);
        x.terms(1000, 20, 5);
        x.deliver(0, 0, 100, 140);
        x.deliver(1, 0, 100, 140);
        x.deliver(2, 0, 150, 140);
        x.deliver(3, 1, 199, 140);
        x.pass(1);
        // The loss is 3 of 350; the remainders are 300, 300 and 100 (of 450).
        c.due("the first of the greatest remainder", x.receipt(0, 0), 99);
        c.due("the second of the greatest remainder", x.receipt(1, 0), 99);
        c.due("the share, rounded down", x.receipt(2, 0), 149);
        c.due("the content", x.ofSilo(0, 0), 347);
        c.due("what it has lost", x.ofSilo(0, 3), 3);
        c.due("each silo by its own content", x.ofSilo(1, 0), 198);
        x.pass(1);
        // Again 3, of 347: the remainders are 297, 297 and 100 (of 447).
        c.due("the next day", x.receipt(0, 0), 98);
        c.due("the next day", x.receipt(2, 0), 148);
        c.due("lost in all", x.ofSilo(0, 3), 6);
        c.due("the dry weight is told, not what is left", x.delivery(2, 0), 150);

        Grainledger tie = withSilos(10000);
        tie.terms(1000, 20, 5);
        tie.deliver(0, 0, 100, 140);
        tie.split(0, 50);
        tie.pass(1);
        c.due("of several the lowest number", tie.receipt(0, 0), 49);
        c.due("and not the other", tie.receipt(1, 0), 50);
        tie.pass(1);
        c.due("below a kilogram nothing is lost", tie.ofSilo(0, 0), 99);

        Grainledger gone = withSilos(10000);
        gone.terms(5000, 20, 5);
        gone.deliver(0, 0, 100, 140);
        for (int i = 1; i < 79; i++) {
            gone.split(0, 1);
        }
        gone.pledge(1, 3, 9, 0);
        gone.pledge(78, 3, 9, 0);
        gone.pass(1);
        // The loss is 5: of 22 kilograms 1 and remainder 10, of each other kilogram remainder 5.
        c.due("the greatest remainder", gone.receipt(0, 0), 20);
        c.due("then the lowest numbers", gone.receipt(1, 0), 0);
        c.due("three of them", gone.receipt(3, 0), 0);
        c.due("and no more", gone.receipt(4, 0), 1);
        c.due("what has nothing is not pledged", gone.receipt(1, 4), -1);
        c.due("nor has it a sum", gone.receipt(1, 5), -1);
        c.due("nor a day", gone.receipt(1, 6), -1);
        c.due("and does not change its holder", gone.receipt(1, 1), 0);
        c.due("another pledge of that day does", gone.receipt(78, 1), 3);
    }

    private static void shrinkageOfLargeNumbers() {
        Grainledger x = withSilos(1000000);
        x.terms(5000, 20, 5);
        for (int i = 0; i < 25; i++) {
            x.deliver(0, 0, 40000, 140);
        }
        c.due("full", x.ofSilo(0, 0), 1000000);
        x.pass(1);
        c.due("5 percent", x.ofSilo(0, 3), 50000);
        c.due("of each", x.receipt(24, 0), 38000);
        x.terms(4999, 20, 5);
        x.pass(1);
        c.due("4.999 percent", x.ofSilo(0, 0), 902510);
        c.due("shared", x.receipt(0, 0), 36100);
        c.due("to the last", x.receipt(24, 0), 36101);
        c.due("anew", x.contentAnew(0), 902510);
    }

    private static void shrinkageOfOneKilogram() {
        Grainledger x = withSilos(1000000, 1000000);
        x.terms(1, 20, 5);
        x.deliver(0, 0, 40000, 140);
        x.deliver(0, 0, 40000, 140);
        x.deliver(0, 0, 19999, 140);
        x.deliver(0, 1, 40000, 140);
        x.deliver(0, 1, 40000, 140);
        x.deliver(0, 1, 20000, 140);
        x.pass(1);
        c.due("of 99999 nothing", x.ofSilo(0, 3), 0);
        c.due("of 100000 one", x.ofSilo(1, 3), 1);
        c.due("of the greatest part, the lowest number", x.receipt(3, 0), 39999);
        c.due("of no other", x.receipt(4, 0), 40000);
        x.pass(30);
        c.due("of 99999 no day", x.ofSilo(1, 3), 1);
    }

    private static void dayInItsOrder() {
        Grainledger x = withSilos(10000);
        x.terms(1000, 20, 5);
        x.deliver(0, 0, 1000, 140);
        x.pledge(0, 1, 0, 1);
        x.contract(1, 2, 0, 0, 1000, 1, 1);
        x.contract(1, 2, 0, 0, 1000, 2, 1);
        x.pass(2);
        c.due("not behind its day: nothing to hand over", x.ofContract(0, 2), 0);
        c.due("first the loss, then the pledge, then the contract", x.ofContract(1, 2), 981);
        c.due("handed on", x.receipt(0, 1), 2);
        c.due("followed", x.ownerOn(0, 1), 0);
        c.due("at the day's end", x.ownerOn(0, 2), 2);
    }

    // ---- Promise 13
    private static void receiptTells() {
        Grainledger x = withSilos(500, 10000);
        x.deliver(4, 0, 1000, 140);
        c.noIndex("receipt(-1, 0)", () -> x.receipt(-1, 0));
        c.noIndex("receipt(1, 0)", () -> x.receipt(1, 0));
        c.noIndex("no receipt ahead of no what", () -> x.receipt(1, 8));
        c.noIndex("receipt(MIN, MAX)", () -> x.receipt(MIN, MAX));
        for (int what : new int[] {-1, 8, MIN, MAX}) {
            c.noRange("what out of range", () -> x.receipt(0, what));
        }
        int[] want = {1000, 4, 1, 0, -1, -1, -1, -1};
        for (int what = 0; what < 8; what++) {
            c.due("receipt(0, " + what + ")", x.receipt(0, what), want[what]);
        }
        x.contract(4, 3, 0, 0, 300, 1, 1);
        x.pass(1);
        x.pledge(1, 2, 11, 4);
        int[] pledged = {300, 3, 1, 0, 2, 11, 5, 0};
        for (int what = 0; what < 8; what++) {
            c.due("receipt(1, " + what + ")", x.receipt(1, what), pledged[what]);
        }
    }

    // ---- Promise 14
    private static void receipts() {
        Grainledger x = withSilos(10000);
        c.due("none", x.receipts(), 0);
        x.deliver(0, 0, 1000, 226);
        c.due("delivered", x.receipts(), 1);
        x.split(0, 10);
        c.due("split", x.receipts(), 2);
        x.reweigh(0, 140);
        c.due("told anew", x.receipts(), 3);
        x.contract(0, 1, 0, 2, 5, 1, 1);
        x.pass(1);
        c.due("split to be handed over", x.receipts(), 4);
        x.takeOut(2);
        c.due("taken out, it counts still", x.receipts(), 4);
    }

    // ---- Promise 15
    private static void deliveryTells() {
        Grainledger x = withSilos(500, 10000);
        x.deliver(4, 1, 1000, 180);
        c.noIndex("delivery(-1, 0)", () -> x.delivery(-1, 0));
        c.noIndex("delivery(1, 0)", () -> x.delivery(1, 0));
        c.noIndex("no delivery ahead of no what", () -> x.delivery(1, 4));
        for (int what : new int[] {-1, 4, MIN, MAX}) {
            c.noRange("what out of range", () -> x.delivery(0, what));
        }
        int[] want = {953, 1, 1, 4};
        for (int what = 0; what < 4; what++) {
            c.due("delivery(0, " + what + ")", x.delivery(0, what), want[what]);
        }
        x.sell(0, 2, 0);
        c.due("its holder is the one who delivered", x.delivery(0, 3), 4);
        x.reweigh(0, 300);
        c.due("its dry weight by now", x.delivery(0, 0), 813);
        c.due("its grade stays", x.delivery(0, 1), 1);
    }

    // ---- Promise 16
    private static void ofContract() {
        Grainledger x = withSilos(10000);
        x.deliver(0, 0, 1000, 140);
        x.pass(4);
        x.contract(0, 1, 0, 0, 1500, 3, 1);
        c.noIndex("ofContract(-1, 0)", () -> x.ofContract(-1, 0));
        c.noIndex("ofContract(1, 0)", () -> x.ofContract(1, 0));
        c.noIndex("no contract ahead of no what", () -> x.ofContract(1, 4));
        for (int what : new int[] {-1, 4, MIN, MAX}) {
            c.noRange("what out of range", () -> x.ofContract(0, what));
        }
        int[] ahead = {7, 0, 0, 0};
        int[] behind = {7, 1, 1000, 500};
        for (int what = 0; what < 4; what++) {
            c.due("ahead ofContract(0, " + what + ")", x.ofContract(0, what), ahead[what]);
        }
        x.pass(3);
        for (int what = 0; what < 4; what++) {
            c.due("behind ofContract(0, " + what + ")", x.ofContract(0, what), behind[what]);
        }
        x.terms(1000, 20, 5);
        x.pass(1);
        c.due("shrinkage makes it no other", x.ofContract(0, 2), 1000);
        x.sell(0, 2, 0);
        x.reweigh(0, 226);
        c.due("nor does what is sold on", x.ofContract(0, 2), 1000);
    }

    // ---- Promise 17
    private static void ofSilo() {
        Grainledger x = withSilos(10000, 10000);
        c.noIndex("ofSilo(-1, 0)", () -> x.ofSilo(-1, 0));
        c.noIndex("ofSilo(2, 0)", () -> x.ofSilo(2, 0));
        c.noIndex("no silo ahead of no what", () -> x.ofSilo(2, 4));
        for (int what : new int[] {-1, 4, MIN, MAX}) {
            c.noRange("what out of range", () -> x.ofSilo(0, what));
        }
        int[] empty = {0, -1, -1, 0};
        int[] full = {900, 1, 2, 0};
        int[] emptied = {0, -1, -1, 9};
        for (int what = 0; what < 4; what++) {
            c.due("empty ofSilo(0, " + what + ")", x.ofSilo(0, what), empty[what]);
        }
        x.deliver(0, 1, 1000, 226);
        for (int what = 0; what < 4; what++) {
            c.due("full ofSilo(0, " + what + ")", x.ofSilo(0, what), full[what]);
        }
        x.terms(1000, 20, 5);
        x.pass(1);
        x.takeOut(0);
        for (int what = 0; what < 4; what++) {
            c.due("emptied ofSilo(0, " + what + ")", x.ofSilo(0, what), emptied[what]);
        }
        x.deliver(0, 0, 100, 100);
        c.due("lost in all, whatever it has by now", x.ofSilo(0, 3), 9);
        x.reweigh(1, 200);
        x.sell(1, 1, 0);
        Grainledger y = withSilos(1000);
        y.deliver(0, 0, 100, 140);
        y.split(0, 93);
        y.takeOut(1);
        c.due("down to seven", y.ofSilo(0, 0), 7);
        y.reweigh(0, 200);
        c.due("emptied by a weight told anew", y.ofSilo(0, 1), -1);
        c.due("nothing is owed", y.owes(0), 0);
    }

    // ---- Promise 18
    private static void contentAnew() {
        Grainledger x = withSilos(10000, 10000);
        c.noIndex("contentAnew(-1)", () -> x.contentAnew(-1));
        c.noIndex("contentAnew(2)", () -> x.contentAnew(2));
        c.noIndex("contentAnew(MIN)", () -> x.contentAnew(MIN));
        c.due("empty", x.contentAnew(0), 0);
        x.deliver(0, 0, 1000, 140);
        x.deliver(1, 0, 500, 140);
        x.deliver(1, 1, 300, 140);
        x.split(0, 100);
        c.due("of the first", x.contentAnew(0), 1500);
        c.due("of the second", x.contentAnew(1), 300);
        x.takeOut(1);
        c.due("taken out", x.contentAnew(0), 1000);
    }

    // ---- Promise 19
    private static void account() {
        Grainledger x = withSilos(1000000);
        for (int holder : new int[] {-1, 6, MIN, MAX}) {
            c.noIndex("account of no holder", () -> x.account(holder));
        }
        x.deliver(0, 0, 100, 100);
        x.sell(0, 1, 10000000);
        x.sell(0, 5, 3);
        c.due("who is paid", x.account(0), 10000000);
        c.due("who pays and is paid", x.account(1), -9999997);
        c.due("who pays", x.account(5), -3);
        x.terms(0, 0, 1000);
        for (int i = 0; i < 30; i++) {
            x.contract(2, 3, 0, 0, 100000, 1, 0);
        }
        x.pass(1);
        c.due("more than an int", x.account(3), 3000000000L);
        c.due("less than an int", x.account(2), -3000000000L);
    }

    // ---- Promise 20
    private static void owes() {
        Grainledger x = withSilos(1000);
        for (int holder : new int[] {-1, 6, MIN, MAX}) {
            c.noIndex("owes of no holder", () -> x.owes(holder));
        }
        x.deliver(5, 0, 1000, 140);
        x.takeOut(0);
        x.reweigh(0, 226);
        c.due("owed", x.owes(5), 100);
        x.reweigh(0, 300);
        c.due("owed more", x.owes(5), 187);
        c.due("not by others", x.owes(4), 0);
        x.reweigh(0, 100);
        c.due("owed less", x.owes(5), 0);
    }

    // ---- Promise 21
    private static void holds() {
        Grainledger x = withSilos(1000, 1000, 1000, 1000);
        for (int holder : new int[] {-1, 6, MIN, MAX}) {
            c.noIndex("holds of no holder", () -> x.holds(holder, 0, 0));
            c.noIndex("no holder ahead of no grain", () -> x.holds(holder, 3, 3));
        }
        int[][] wrong = {{-1, 0}, {3, 0}, {0, -1}, {0, 3}, {MIN, 0}, {MAX, 0}, {0, MIN}, {0, MAX}};
        for (int[] a : wrong) {
            c.noRange("holds out of range", () -> x.holds(0, a[0], a[1]));
        }
        x.deliver(0, 0, 1000, 140);
        x.deliver(0, 0, 300, 140);
        x.deliver(0, 0, 200, 226);
        x.deliver(1, 0, 100, 140);
        x.deliver(0, 2, 150, 226);
        c.due("in two silos", x.holds(0, 0, 0), 1300);
        c.due("another grade", x.holds(0, 0, 2), 180);
        c.due("another grain", x.holds(0, 2, 2), 135);
        c.due("another holder", x.holds(1, 0, 0), 100);
        c.due("nothing", x.holds(1, 1, 1), 0);
        x.pledge(1, 2, 1, 50);
        c.due("what is pledged is its holder's", x.holds(0, 0, 0), 1300);
        x.takeOut(0);
        c.due("what is taken out is not", x.holds(0, 0, 0), 300);
    }

    // ---- Promise 22
    private static void ownerOn() {
        Grainledger x = withSilos(10000);
        x.pass(2);
        x.deliver(0, 0, 1000, 140);
        c.noIndex("ownerOn(-1, 0)", () -> x.ownerOn(-1, 0));
        c.noIndex("ownerOn(1, 0)", () -> x.ownerOn(1, 0));
        c.noIndex("no receipt ahead of no day", () -> x.ownerOn(1, -1));
        for (int day : new int[] {-1, 3, MIN, MAX}) {
            c.noRange("day out of range", () -> x.ownerOn(0, day));
        }
        c.due("ahead of its day", x.ownerOn(0, 1), -1);
        c.due("on its day", x.ownerOn(0, 2), 0);
        x.sell(0, 1, 0);
        x.sell(0, 2, 0);
        c.due("as it is now", x.ownerOn(0, 2), 2);
        x.pass(3);
        x.split(0, 10);
        x.sell(1, 3, 0);
        x.pass(1);
        x.sell(0, 4, 0);
        x.sell(0, 5, 0);
        x.contract(5, 0, 0, 0, 100, 1, 0);
        x.pass(1);
        x.takeOut(0);
        int[] first = {-1, -1, 2, 2, 2, 2, 5, 5};
        int[] second = {-1, -1, -1, -1, -1, 3, 3, 3};
        int[] third = {-1, -1, -1, -1, -1, -1, -1, 0};
        for (int day = 0; day < 8; day++) {
            c.due("ownerOn(0, " + day + ")", x.ownerOn(0, day), first[day]);
            c.due("ownerOn(1, " + day + ")", x.ownerOn(1, day), second[day]);
            c.due("ownerOn(2, " + day + ")", x.ownerOn(2, day), third[day]);
        }
        c.due("the last holder of what is not LIVE", x.receipt(0, 1), 5);
    }
}
