import java.io.IOException;
import java.util.Arrays;

/** What stands under "Days" and "Contracts": each sentence that names an edge has a test of its own. */
public final class EdgesOfDaysTest {
    private static Sentences s;

    public static void main(String[] args) throws IOException {
        s = new Sentences();
        days();
        contracts();
        s.end();
    }

    private static void days() {
        s.under("Days");
        s.edge("When a day passes, one behind the other:", EdgesOfDaysTest::oneBehindTheOther);
        s.edge("Today is one more.", EdgesOfDaysTest::oneMore);
        s.edge("Each silo, by rising numbers, loses its content times the rate of shrinkage, divided by 100000, "
                + "rounded down.", EdgesOfDaysTest::lossOfASilo);
        s.edge("Each LIVE receipt in it loses that loss times its kilograms divided by the content ahead of that, "
                + "rounded down; what is left of the loss they bear one kilogram each, those first of which the "
                + "remainder of that division is greatest, of several the lowest number.",
                EdgesOfDaysTest::lossOfReceipts);
        s.edge("A receipt that has nothing any more is not pledged either.", EdgesOfDaysTest::nothingIsNotPledged);
        s.edge("Receipts whose day to be redeemed is behind, by rising numbers, change their holder as told.",
                EdgesOfDaysTest::dayIsBehind);
        s.edge("Contracts for today are settled, by rising numbers.", EdgesOfDaysTest::contractsForToday);
    }

    private static void contracts() {
        s.under("Contracts");
        s.plain("A contract has a seller, a buyer, a grain, a grade, kilograms, a day, and a price, in cents for a "
                + "kilogram.");
        s.edge("To settle it: the seller's LIVE receipts that are not pledged, in silos with that grain and grade, by "
                + "rising numbers, are handed over to the buyer, as long as fewer kilograms are than the contract has; "
                + "the last one is split ahead of that, if it has more, and the new one is handed over; if there are "
                + "80 receipts then, it stays, and the handing over is at its end.", EdgesOfDaysTest::handedOver);
        s.edge("The buyer pays the price for each kilogram that was handed over; for each one that is missing the "
                + "seller pays the penalty to the buyer.", EdgesOfDaysTest::paidForContracts);
        s.edge("A receipt that was handed over has that contract until its holder is another one.",
                EdgesOfDaysTest::contractOfAReceipt);
    }

    private static void oneBehindTheOther() {
        Grainledger at = Recipes.withReceipts(1000);
        Grainledger by = Recipes.withReceipts(1000);
        at.terms(5000, 0, 0);
        by.terms(5000, 0, 0);
        at.pass(30);
        for (int i = 0; i < 30; i++) {
            by.pass(1);
        }
        s.due("30 days at once, as one by one", at.ofSilo(0, 0), by.ofSilo(0, 0));
        Grainledger x = Recipes.withReceipts(100);
        x.terms(1000, 0, 0);
        x.pass(1);
        s.due("1 of 100 kilograms", x.ofSilo(0, 0), 99);
        x.pass(30);
        s.due("and nothing of 99", x.ofSilo(0, 0), 99);
        Grainledger order = Recipes.withReceipts(20);
        order.terms(5000, 0, 0);
        order.pledge(0, 1, 0, 0);
        order.contract(1, 2, 0, 0, 20, 1, 0);
        order.pass(1);
        s.due("shrunk, then the other's, then handed over", order.ofContract(0, 2), 19);
        s.due("the loss is missing", order.ofContract(0, 3), 1);
    }

    private static void oneMore() {
        Grainledger x = Recipes.withReceipts(100);
        s.due("pass(1)", x.pass(1), 1);
        s.due("pass(29)", x.pass(29), 30);
        s.due("pass(30)", x.pass(30), 60);
        s.due("day 60 is today", x.ownerOn(0, 60), 0);
        s.noRange("day 61 is not yet", () -> x.ownerOn(0, 61));
    }

    private static void lossOfASilo() {
        int[][] table = {{1, 5000, 0}, {19, 5000, 0}, {20, 5000, 1}, {39, 5000, 1}, {40, 5000, 2}, {99, 1000, 0},
            {100, 1000, 1}, {199, 1000, 1}, {200, 1000, 2}, {99999, 1, 0}, {100000, 1, 1}, {199999, 1, 1},
            {200000, 1, 2}, {1000000, 0, 0}, {1000000, 1, 10}, {999999, 1, 9}, {858993, 2500, 21474},
            {858994, 2500, 21474}, {1000000, 4999, 49990}, {1000000, 5000, 50000}};
        for (int[] row : table) {
            Grainledger x = Recipes.withContent(row[0]);
            x.terms(row[1], 0, 0);
            x.pass(1);
            String what = row[0] + " kg at " + row[1];
            s.due(what + ", lost", x.ofSilo(0, 3), row[2]);
            s.due(what + ", left", x.ofSilo(0, 0), row[0] - row[2]);
            s.due(what + ", left anew", x.contentAnew(0), row[0] - row[2]);
        }
        Grainledger empty = Recipes.withReceipts(1000);
        empty.silo(1000);
        empty.terms(5000, 0, 0);
        empty.takeOut(0);
        empty.pass(30);
        s.due("an emptied silo loses nothing", empty.ofSilo(0, 3), 0);
        s.due("nor does one that was ever empty", empty.ofSilo(1, 3), 0);
        Grainledger two = Recipes.withReceipts(100, 100);
        two.silo(100);
        two.deliver(0, 1, 100, 140);
        two.terms(1000, 0, 0);
        two.pass(1);
        s.due("each silo by its own content: 200", two.ofSilo(0, 3), 2);
        s.due("each silo by its own content: 100", two.ofSilo(1, 3), 1);
    }

    private static void lossOfReceipts() {
        shared(1000, new int[] {100}, new int[] {99});
        shared(5000, new int[] {20}, new int[] {19});
        shared(1000, new int[] {50, 50}, new int[] {49, 50});
        shared(1000, new int[] {50, 51}, new int[] {50, 50});
        shared(1000, new int[] {51, 50}, new int[] {50, 50});
        shared(1000, new int[] {1, 99}, new int[] {1, 98});
        shared(1000, new int[] {99, 1}, new int[] {98, 1});
        shared(1000, new int[] {100, 100}, new int[] {99, 99});
        shared(1000, new int[] {60, 60, 80}, new int[] {59, 60, 79});
        shared(1000, new int[] {150, 100, 100}, new int[] {149, 99, 99});
        shared(1000, new int[] {199, 101}, new int[] {197, 100});
        shared(5000, new int[] {7, 7, 6}, new int[] {6, 7, 6});
        shared(5000, new int[] {6, 7, 7}, new int[] {6, 6, 7});
        shared(5000, new int[] {1, 2, 3, 4, 5, 6, 19}, new int[] {1, 2, 3, 4, 5, 5, 18});
        shared(999, new int[] {100, 99}, new int[] {99, 99});
        // By the content behind the loss, or between two receipts, others would be first.
        shared(5000, new int[] {10, 30, 60}, new int[] {9, 29, 57});
        shared(5000, new int[] {60, 10, 30}, new int[] {57, 9, 29});
        nothingIsBorneByWhatIsOut();
        theLargestProduct();
    }

    private static void shared(int rate, int[] kilograms, int[] left) {
        Grainledger x = Recipes.withReceipts(kilograms);
        x.terms(rate, 0, 0);
        x.pass(1);
        int[] got = new int[left.length];
        for (int i = 0; i < left.length; i++) {
            got[i] = x.receipt(i, 0);
        }
        s.due(Arrays.toString(kilograms) + " at " + rate, Arrays.toString(got), Arrays.toString(left));
    }

    private static void nothingIsBorneByWhatIsOut() {
        Grainledger x = Recipes.withReceipts(40, 50, 60);
        x.silo(1000);
        x.deliver(0, 1, 300, 140);
        x.takeOut(2);
        x.deliver(0, 0, 110, 140);
        x.terms(1000, 0, 0);
        x.pass(1);
        s.due("the first", x.receipt(0, 0), 40);
        s.due("the second", x.receipt(1, 0), 49);
        s.due("what is taken out", x.receipt(2, 0), 0);
        s.due("what is in another silo bears that one's", x.receipt(3, 0), 297);
        s.due("the last", x.receipt(4, 0), 109);
    }

    /** More than a silo's room by weights told anew, so that the loss times the kilograms is beyond an int. */
    private static void theLargestProduct() {
        Grainledger x = Recipes.withSilos(1000000);
        x.deliver(0, 0, 40000, 181);
        for (int i = 1; i < 30; i++) {
            x.deliver(0, 0, 40000, 300);
        }
        for (int i = 1; i < 30; i++) {
            x.reweigh(i, 140);
        }
        s.due("the content", x.ofSilo(0, 0), 1198093);
        x.terms(5000, 0, 0);
        x.pass(1);
        s.due("the loss", x.ofSilo(0, 3), 59904);
        s.due("of 38093 kilograms", x.receipt(0, 0), 36189);
        s.due("of 32558 kilograms", x.receipt(1, 0), 30930);
        s.due("of 7442 kilograms", x.receipt(58, 0), 7070);
        s.due("all of the loss is shared", x.contentAnew(0), 1198093 - 59904);
    }

    private static void nothingIsNotPledged() {
        Grainledger x = Recipes.withReceipts(1, 1, 1, 1, 1, 1, 1, 1, 1, 1, 1, 1, 1, 1, 1, 1, 1, 1, 1, 1);
        x.terms(5000, 0, 0);
        x.pledge(0, 1, 9, 0);
        x.pledge(1, 1, 9, 0);
        x.pass(1);
        for (int what = 4; what < 7; what++) {
            s.due("what has nothing, " + what, x.receipt(0, what), -1);
        }
        s.due("it does not become the other's", x.receipt(0, 1), 0);
        s.noState("it is not redeemed", () -> x.redeem(0));
        s.due("what has a kilogram does", x.receipt(1, 1), 1);
        Grainledger still = Recipes.withReceipts(20);
        still.terms(5000, 0, 0);
        still.pledge(0, 1, 9, 1);
        still.pass(1);
        s.due("what has less is pledged still", still.receipt(0, 4), 1);
        s.due("for the same sum", still.redeem(0), 9);
    }

    private static void dayIsBehind() {
        Grainledger x = Recipes.withReceipts(100, 100, 100, 100);
        x.pass(1);
        x.pledge(3, 1, 1, 1);
        x.pledge(1, 2, 2, 1);
        x.pledge(0, 3, 3, 2);
        x.pass(1);
        s.due("the day itself is not behind", x.receipt(3, 1), 0);
        s.due("nor is it the other's", x.receipt(1, 1), 0);
        x.pass(1);
        s.due("a day behind", x.receipt(3, 1), 1);
        s.due("the other, a day behind", x.receipt(1, 1), 2);
        s.due("a day later: not yet", x.receipt(0, 1), 0);
        x.pass(30);
        s.due("on the way of many days", x.receipt(0, 1), 3);
        s.due("not ahead of its day", x.ownerOn(0, 3), 0);
        s.due("but on its day", x.ownerOn(0, 4), 3);
        s.due("what is not pledged stays", x.receipt(2, 1), 0);
    }

    private static void contractsForToday() {
        Grainledger x = Recipes.withReceipts(1000);
        x.contract(0, 1, 0, 0, 100, 2, 1);
        x.contract(1, 2, 0, 0, 100, 2, 1);
        x.contract(0, 3, 0, 0, 100, 100, 1);
        x.contract(2, 4, 0, 0, 100, 1, 1);
        x.pass(1);
        s.due("a day ahead", x.ofContract(0, 1), 0);
        s.due("nothing for one who has it a day later", x.ofContract(3, 3), 100);
        x.pass(1);
        s.due("on its day", x.ofContract(0, 1), 1);
        s.due("what is handed over can be handed on", x.ofContract(1, 2), 100);
        s.due("and is", x.receipt(1, 1), 2);
        x.pass(1);
        s.due("a day behind it is not settled again", x.account(1), 0);
        x.pass(30);
        x.pass(30);
        x.pass(30);
        x.pass(6);
        s.due("on day 99", x.ofContract(2, 1), 0);
        x.pass(1);
        s.due("on day 100", x.ofContract(2, 1), 1);
        Grainledger falling = Recipes.withReceipts(100);
        falling.contract(1, 2, 0, 0, 100, 1, 1);
        falling.contract(0, 1, 0, 0, 100, 1, 1);
        falling.pass(1);
        s.due("the lower number first: it has nothing yet", falling.ofContract(0, 3), 100);
        s.due("the higher number then", falling.ofContract(1, 2), 100);
    }

    private static void handedOver() {
        handsOver(new int[] {100, 200}, 99, new int[] {1, 200, 99}, new int[] {0, 0, 1});
        handsOver(new int[] {100, 200}, 100, new int[] {100, 200}, new int[] {1, 0});
        handsOver(new int[] {100, 200}, 101, new int[] {100, 199, 1}, new int[] {1, 0, 1});
        handsOver(new int[] {100, 200}, 299, new int[] {100, 1, 199}, new int[] {1, 0, 1});
        handsOver(new int[] {100, 200}, 300, new int[] {100, 200}, new int[] {1, 1});
        handsOver(new int[] {100, 200}, 301, new int[] {100, 200}, new int[] {1, 1});
        handsOver(new int[] {100, 200}, 1, new int[] {99, 200, 1}, new int[] {0, 0, 1});
        whoseAreNotHandedOver();
        seventyNineReceipts();
        eightyReceipts();
        Grainledger none = Recipes.withSilos(1000);
        none.contract(0, 1, 0, 0, 5, 1, 0);
        none.pass(1);
        s.due("without receipts nothing is handed over", none.ofContract(0, 2), 0);
        s.due("without receipts all is missing", none.ofContract(0, 3), 5);
    }

    private static void handsOver(int[] kilograms, int wanted, int[] left, int[] holders) {
        Grainledger x = Recipes.withReceipts(kilograms);
        x.contract(0, 1, 0, 0, wanted, 1, 0);
        x.pass(1);
        String what = wanted + " of " + Arrays.toString(kilograms);
        s.due(what + ", receipts", x.receipts(), left.length);
        for (int i = 0; i < left.length; i++) {
            s.due(what + ", kilograms of " + i, x.receipt(i, 0), left[i]);
            s.due(what + ", holder of " + i, x.receipt(i, 1), holders[i]);
            s.due(what + ", contract of " + i, x.receipt(i, 7), holders[i] - 1);
        }
        s.due(what + ", handed over", x.ofContract(0, 2), Math.min(wanted, 300));
        s.due(what + ", missing", x.ofContract(0, 3), Math.max(wanted - 300, 0));
    }

    private static void whoseAreNotHandedOver() {
        Grainledger x = Recipes.withSilos(10000, 10000, 10000, 10000);
        x.deliver(0, 1, 100, 140);
        x.deliver(0, 0, 100, 180);
        x.deliver(2, 0, 100, 140);
        x.deliver(0, 0, 100, 140);
        x.deliver(0, 0, 100, 140);
        x.deliver(0, 0, 100, 140);
        x.takeOut(3);
        x.pledge(4, 3, 0, 1);
        x.contract(0, 1, 0, 0, 1000, 1, 0);
        x.pass(1);
        String[] why = {"another grain", "another grade", "another holder", "taken out", "pledged until today"};
        for (int i = 0; i < why.length; i++) {
            s.due(why[i], x.receipt(i, 7), -1);
        }
        s.due("the seller's", x.receipt(5, 7), 0);
        s.due("is all that is handed over", x.ofContract(0, 2), 100);
        Grainledger again = Recipes.withReceipts(100);
        again.contract(0, 1, 0, 0, 100, 1, 0);
        again.contract(1, 2, 0, 0, 99, 2, 0);
        again.pass(2);
        s.due("what was handed over can be handed over again", again.ofContract(1, 2), 99);
        s.due("what is left of it stays", again.receipt(0, 1), 1);
        s.due("with the contract that it had", again.receipt(0, 7), 0);
        Grainledger two = Recipes.withSilos(100, 100);
        two.deliver(0, 2, 100, 300);
        two.deliver(0, 2, 100, 300);
        two.contract(0, 1, 2, 2, 162, 1, 0);
        two.pass(1);
        s.due("out of two silos", two.ofContract(0, 2), 162);
    }

    private static void seventyNineReceipts() {
        Grainledger x = Recipes.withManyReceipts(79, 1000);
        x.contract(0, 1, 0, 0, 900, 1, 0);
        x.contract(0, 2, 0, 0, 20, 1, 0);
        x.pass(1);
        s.due("the eightieth is handed over", x.receipt(79, 1), 1);
        s.due("as it should be", x.ofContract(0, 2), 900);
        s.due("and there is none more: 22 are not split", x.receipt(0, 0), 22);
        s.due("so all is missing", x.ofContract(1, 3), 20);
    }

    private static void eightyReceipts() {
        Grainledger x = Recipes.withReceipts(spread());
        x.sell(0, 5, 0);
        x.contract(0, 1, 0, 0, 11, 1, 0);
        x.contract(0, 2, 0, 0, 10, 2, 0);
        x.contract(0, 3, 0, 0, 2, 3, 0);
        x.pass(1);
        s.due("the first whole one", x.receipt(1, 1), 1);
        s.due("the larger one stays", x.receipt(2, 1), 0);
        s.due("whole", x.receipt(2, 0), 10);
        s.due("the handing over is at its end", x.receipt(3, 1), 0);
        s.due("handed over", x.ofContract(0, 2), 2);
        s.due("missing", x.ofContract(0, 3), 9);
        x.pass(1);
        s.due("what has no more is handed over", x.receipt(2, 1), 2);
        s.due("all of it", x.ofContract(1, 2), 10);
        x.pass(1);
        s.due("as many whole ones as it has", x.receipt(4, 1), 3);
        s.due("and no more", x.receipt(5, 1), 0);
        s.due("80 receipts still", x.receipts(), 80);
    }

    /** 80 receipts: 2 kilograms, then 10, then 1 each; the first is for what others need not have. */
    private static int[] spread() {
        int[] kilograms = new int[80];
        Arrays.fill(kilograms, 1);
        kilograms[0] = 500;
        kilograms[1] = 2;
        kilograms[2] = 10;
        return kilograms;
    }

    private static void paidForContracts() {
        int[][] table = {{100, 1000, 1000, 100000}, {101, 1000, 1000, 99000}, {101, 0, 1000, -1000},
            {101, 1000, 0, 100000}, {99, 7, 1000, 693}, {1, 1, 1000, 1}, {100000, 1000, 1000, 100000 - 99900000},
            {100000, 0, 0, 0}};
        for (int[] row : table) {
            Grainledger x = Recipes.withReceipts(100);
            x.terms(0, 0, row[2]);
            x.contract(0, 1, 0, 0, row[0], 1, row[1]);
            x.pass(1);
            String what = "100 of " + row[0] + " for " + row[1] + ", penalty " + row[2];
            s.due(what + ", the seller", x.account(0), row[3]);
            s.due(what + ", the buyer", x.account(1), -row[3]);
        }
        Grainledger none = new Grainledger();
        none.contract(4, 3, 0, 0, 100000, 1, 1000);
        none.pass(1);
        s.due("all is missing", none.account(3), 500000);
        s.due("and paid by the seller", none.account(4), -500000);
        Grainledger all = Recipes.withContent(100000);
        all.contract(0, 1, 0, 0, 100000, 1, 1000);
        all.pass(1);
        s.due("the largest price", all.account(0), 100000000);
    }

    private static void contractOfAReceipt() {
        Grainledger x = Recipes.withReceipts(100);
        x.contract(0, 1, 0, 0, 100, 1, 0);
        s.due("ahead of it", x.receipt(0, 7), -1);
        x.pass(1);
        s.due("handed over", x.receipt(0, 7), 0);
        x.pledge(0, 2, 0, 1);
        x.pass(1);
        s.due("pledged, its holder is the same", x.receipt(0, 7), 0);
        x.redeem(0);
        s.due("redeemed", x.receipt(0, 7), 0);
        s.due("a split has it too", x.receipt(x.split(0, 50), 7), 0);
        x.pledge(0, 2, 0, 0);
        x.pass(1);
        s.due("not redeemed, its holder is another one", x.receipt(0, 7), -1);
        s.due("the split has it still", x.receipt(1, 7), 0);
        x.sell(1, 3, 0);
        s.due("sold", x.receipt(1, 7), -1);
        x.sell(1, 1, 0);
        s.due("sold back", x.receipt(1, 7), -1);
        x.contract(1, 4, 0, 0, 50, 1, 0);
        x.contract(4, 5, 0, 0, 50, 2, 0);
        x.pass(1);
        s.due("another contract", x.receipt(1, 7), 1);
        x.pass(1);
        s.due("and another", x.receipt(1, 7), 2);
    }
}
