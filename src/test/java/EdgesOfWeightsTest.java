import java.io.IOException;

/** What stands under "Weights told anew": each sentence that names an edge has a test of its own. */
public final class EdgesOfWeightsTest {
    private static Sentences s;

    public static void main(String[] args) throws IOException {
        s = new Sentences();
        s.under("Weights told anew");
        s.edge("When the moisture of a delivery is told anew, its dry weight becomes another one by that; its grade "
                + "and silo stay.", EdgesOfWeightsTest::anotherDryWeight);
        s.edge("If it is more, the one who delivered gets a receipt for all of the difference in that silo, whatever "
                + "is owed, which has so much more, whatever its room.", EdgesOfWeightsTest::more);
        s.edge("If it is less, the difference is taken from LIVE receipts: first those of the delivery, by rising "
                + "numbers, then others of the one who delivered, in that silo, by rising numbers, pledged ones too, "
                + "each as far as it goes; the silo has so much less.", EdgesOfWeightsTest::less);
        s.edge("What cannot be taken the one who delivered owes, in kilograms.", EdgesOfWeightsTest::owed);
        s.edge("For each kilogram that is taken from another holder: if the receipt has a contract, its seller pays "
                + "the price of that to the holder, and the contract has a kilogram less that was handed over, and one "
                + "more that is missing; otherwise the one who delivered pays the fair price to the holder.",
                EdgesOfWeightsTest::takenFromAnother);
        s.edge("(No penalty is paid by that; of what is taken from the one who delivered nothing is paid, and no "
                + "contract is another one.)", EdgesOfWeightsTest::nothingIsPaid);
        s.edge("A receipt that has nothing any more is not pledged either.", EdgesOfWeightsTest::nothingIsNotPledged);
        s.edge("(If the silo is empty, or has another grain or grade by now, all of the difference is owed, or, if it "
                + "is more, owed less; what is owed may be below 0.)", EdgesOfWeightsTest::anotherSilo);
        s.edge("The constants: `NONE = -1`: None.", EdgesOfWeightsTest::none);
        s.plain("Ahead of the calls `silo`, `terms` the interface says: ---- silos and terms.");
        s.plain("Ahead of the calls `deliver`, `split`, `sell`, `pledge`, `redeem`, `takeOut`, `reweigh` the interface "
                + "says: ---- deliveries and receipts.");
        s.plain("Ahead of the calls `contract`, `pass` the interface says: ---- contracts and days.");
        s.plain("Ahead of the calls `receipt`, `receipts`, `delivery`, `ofContract`, `ofSilo`, `contentAnew`, "
                + "`account`, `owes`, `holds`, `ownerOn` the interface says: ---- what is asked.");
        s.end();
    }

    /** Holder 0's delivery 0 of dry weight 900 (told anew at 140 it is 1000, at 300 it is 813), in silo 0. */
    private static Grainledger withNineHundred(int room) {
        Grainledger x = Recipes.withSilos(room);
        x.deliver(0, 0, 1000, 226);
        return x;
    }

    private static void anotherDryWeight() {
        Grainledger x = Recipes.withSilos(50, 1000);
        x.deliver(0, 0, 860, 140);
        int[][] table = {{141, 859}, {180, 820}, {181, 819}, {300, 700}, {299, 701}, {140, 860}, {50, 860},
            {300, 700}, {50, 860}, {141, 859}};
        int before = 860;
        for (int[] row : table) {
            s.due("told anew at " + row[0], x.reweigh(0, row[0]), row[1] - before);
            s.due("its dry weight at " + row[0], x.delivery(0, 0), row[1]);
            s.due("its grade at " + row[0], x.delivery(0, 1), 0);
            s.due("its silo at " + row[0], x.delivery(0, 2), 1);
            s.due("the silo's grade at " + row[0], x.ofSilo(1, 2), 0);
            s.due("the content at " + row[0], x.ofSilo(1, 0), row[1]);
            before = row[1];
        }
        Grainledger same = Recipes.withManyReceipts(80, 1000);
        s.due("the same, with 80 receipts", same.reweigh(0, 140), 0);
        s.due("drier than dry is the same", same.reweigh(0, 50), 0);
        s.due("nothing is another", same.ofSilo(0, 0), 1000);
        Grainledger wet = withNineHundred(900);
        wet.terms(5000, 20, 5);
        wet.pass(1);
        s.due("less the dry weight ahead of shrinkage", wet.reweigh(0, 300), -87);
        s.due("from what is left", wet.receipt(0, 0), 855 - 87);
    }

    private static void more() {
        Grainledger x = withNineHundred(900);
        s.due("a kilogram or two above the room", x.reweigh(0, 225), 1);
        s.due("the content", x.ofSilo(0, 0), 901);
        s.due("the receipt", x.receipt(1, 0), 1);
        s.due("all of the difference", x.reweigh(0, 140), 99);
        int[] receipt = {99, 0, 0, 0, -1, -1, -1, -1};
        for (int what = 0; what < 8; what++) {
            s.due("the next receipt, " + what, x.receipt(2, what), receipt[what]);
        }
        s.due("the content is far above the room", x.ofSilo(0, 0), 1000);
        s.noState("there is no room then", () -> x.deliver(0, 0, 100, 226));
        x.sell(0, 1, 0);
        x.takeOut(0);
        s.due("there is room again", x.deliver(0, 0, 800, 226), 3);
        Grainledger owing = withNineHundred(10000);
        owing.takeOut(0);
        owing.deliver(1, 0, 1000, 226);
        owing.reweigh(0, 300);
        s.due("owed", owing.owes(0), 87);
        owing.reweigh(0, 226);
        s.due("owed still", owing.owes(0), 87);
        s.due("a receipt for all, whatever is owed", owing.receipt(2, 0), 87);
        s.due("of the one who delivered", owing.receipt(2, 1), 0);
        s.due("others have no part", owing.receipt(1, 0), 900);
        Grainledger sold = withNineHundred(900);
        sold.sell(0, 1, 0);
        sold.reweigh(0, 140);
        s.due("not of the one who has all else of it", sold.receipt(1, 1), 0);
        s.due("who has what was there", sold.receipt(0, 0), 900);
        Grainledger last = Recipes.withSilos(1000);
        last.deliver(0, 0, 860, 141);
        for (int i = 1; i < 79; i++) {
            last.split(0, 1);
        }
        s.due("by one kilogram, the eightieth receipt", last.reweigh(0, 140), 1);
        s.due("which is made", last.receipt(79, 0), 1);
        s.due("whole", last.receipts(), 80);
    }

    private static void less() {
        byRisingNumbers();
        othersInThatSilo();
        oneKilogram();
        Grainledger pledged = Recipes.withReceipts(50, 950);
        pledged.pledge(0, 1, 9, 5);
        pledged.reweigh(0, 200);
        s.due("a pledged one too, first", pledged.receipt(0, 0), 0);
        s.due("then the next", pledged.receipt(1, 0), 930);
        Grainledger only = Recipes.withReceipts(1000);
        only.pledge(0, 1, 9, 5);
        only.reweigh(0, 141);
        s.due("as much as that alone", only.receipt(0, 0), 998);
        s.due("pledged still", only.receipt(0, 4), 1);
        s.due("the silo has so much less", only.ofSilo(0, 0), 998);
        s.due("a loss by shrinkage is another thing", only.ofSilo(0, 3), 0);
    }

    private static void byRisingNumbers() {
        int[][] table = {{69, 931, 0, 930}, {70, 930, 0, 930}, {71, 929, 1, 929}, {930, 70, 860, 70}, {1, 999, 0, 930}};
        for (int[] row : table) {
            Grainledger x = Recipes.withReceipts(row[0], row[1]);
            x.deliver(1, 0, 1000, 140);
            s.due("70 less", x.reweigh(0, 200), -70);
            String what = "70 of " + row[0] + " and " + row[1];
            s.due(what + ", the first", x.receipt(0, 0), row[2]);
            s.due(what + ", the second", x.receipt(1, 0), row[3]);
            s.due(what + ", another holder's other delivery", x.receipt(2, 0), 1000);
            s.due(what + ", the silo", x.ofSilo(0, 0), 1930);
            s.due(what + ", nothing is owed", x.owes(0), 0);
        }
    }

    private static void othersInThatSilo() {
        Grainledger x = Recipes.withSilos(10000, 10000);
        x.deliver(0, 0, 100, 140);
        x.deliver(1, 0, 100, 140);
        x.deliver(0, 1, 1000, 140);
        x.deliver(0, 0, 1000, 140);
        x.split(0, 50);
        x.sell(0, 2, 0);
        x.sell(1, 0, 0);
        x.sell(3, 3, 0);
        x.split(3, 20);
        x.sell(5, 0, 0);
        x.split(3, 930);
        x.takeOut(6);
        x.pledge(4, 5, 0, 3);
        // Of delivery 3 are 3 (50 kg, of holder 3) and 5 (20 kg, of holder 0); of holder 0, else, 1 and 4.
        s.due("187 less", x.reweigh(3, 300), -187);
        s.due("of the delivery, another holder's", x.receipt(3, 0), 0);
        s.due("of the delivery, one's own", x.receipt(5, 0), 0);
        s.due("one's own, of another's delivery", x.receipt(1, 0), 0);
        s.due("one's own that is pledged, as far as it must", x.receipt(4, 0), 33);
        s.due("another's of one's own other delivery", x.receipt(0, 0), 50);
        s.due("one's own in another silo", x.receipt(2, 0), 1000);
        s.due("the silo has so much less", x.ofSilo(0, 0), 83);
        s.due("nothing is owed", x.owes(0), 0);
    }

    private static void oneKilogram() {
        Grainledger x = Recipes.withReceipts(100);
        x.deliver(0, 0, 100, 140);
        x.sell(0, 1, 0);
        s.due("one kilogram less", x.reweigh(0, 141), -1);
        s.due("of the delivery, another holder's", x.receipt(0, 0), 99);
        s.due("and not one's own other", x.receipt(1, 0), 100);
        x.takeOut(0);
        s.due("two kilograms less, and none of the delivery", x.reweigh(0, 160), -2);
        s.due("one's own other of a higher number", x.receipt(1, 0), 98);
        Grainledger lower = Recipes.withReceipts(98, 1, 1);
        lower.deliver(0, 0, 100, 140);
        lower.takeOut(3);
        lower.takeOut(0);
        s.due("one kilogram less, and none of the delivery", lower.reweigh(1, 141), -1);
        s.due("one's own other of a lower number", lower.receipt(1, 0), 0);
        s.due("and no more", lower.receipt(2, 0), 1);
        Grainledger first = Recipes.withReceipts(100);
        first.deliver(0, 0, 100, 140);
        first.takeOut(1);
        first.reweigh(1, 141);
        s.due("one's own other of the lowest number", first.receipt(0, 0), 99);
    }

    private static void owed() {
        int[][] table = {{71, 1, 0}, {70, 0, 0}, {69, 0, 1}, {1, 0, 69}};
        for (int[] row : table) {
            Grainledger x = Recipes.withSilos(10000);
            x.deliver(0, 0, 1000, 140);
            x.deliver(1, 0, 1000, 140);
            x.split(0, row[0]);
            x.takeOut(0);
            x.reweigh(0, 200);
            s.due("70 of " + row[0] + ", left", x.receipt(2, 0), row[1]);
            s.due("70 of " + row[0] + ", owed", x.owes(0), row[2]);
        }
        Grainledger x = Recipes.withSilos(10000);
        x.deliver(4, 0, 1000, 140);
        x.deliver(5, 0, 1000, 140);
        x.takeOut(0);
        x.reweigh(0, 200);
        s.due("of nothing, all is owed", x.owes(4), 70);
        x.reweigh(0, 300);
        s.due("and more", x.owes(4), 187);
        s.due("by that one alone", x.owes(5), 0);
        s.due("the other has all", x.ofSilo(0, 0), 1000);
        s.due("owed in kilograms, not in cents", x.account(4), 0);
    }

    private static void takenFromAnother() {
        withoutContract();
        int[][] table = {{0, 0}, {1, 70}, {1000, 70000}};
        for (int[] row : table) {
            Grainledger x = Recipes.withReceipts(1000);
            x.terms(0, 999, 5);
            x.sell(0, 2, 0);
            x.contract(2, 1, 0, 0, 1000, 1, row[0]);
            x.pass(1);
            x.reweigh(0, 200);
            String what = "the price is " + row[0];
            s.due(what + ", the contract's seller pays", x.account(2), 930L * row[0]);
            s.due(what + ", the holder is paid", x.account(1), -930L * row[0]);
            s.due(what + ", the one who delivered has no part", x.account(0), 0);
            s.due(what + ", handed over", x.ofContract(0, 2), 930);
            s.due(what + ", missing", x.ofContract(0, 3), 70);
            s.due(what + ", settled", x.ofContract(0, 1), 1);
            s.due(what + ", its contract", x.receipt(0, 7), 0);
        }
        allOfAContract();
    }

    private static void withoutContract() {
        int[][] table = {{0, 0}, {1, 70}, {1000, 70000}};
        for (int[] row : table) {
            Grainledger x = Recipes.withReceipts(1000);
            x.contract(0, 1, 0, 0, 1000, 1, 77);
            x.pass(1);
            x.terms(0, row[0], 5);
            x.sell(0, 2, 0);
            x.reweigh(0, 200);
            String what = "the fair price is " + row[0];
            s.due(what + ", the holder", x.account(2), row[1]);
            s.due(what + ", the one who delivered", x.account(0), 77000 - row[1]);
            s.due(what + ", a contract that it had is the same", x.ofContract(0, 2), 1000);
        }
        Grainledger one = Recipes.withReceipts(1, 999);
        one.sell(0, 1, 0);
        one.reweigh(0, 200);
        s.due("of one kilogram alone", one.account(1), 20);
        s.due("the rest is of one's own", one.account(0), -20);
    }

    private static void allOfAContract() {
        Grainledger x = Recipes.withReceipts(20, 980);
        x.contract(0, 1, 0, 0, 20, 1, 10);
        x.pass(1);
        x.sell(1, 2, 0);
        x.reweigh(0, 200);
        s.due("all that was handed over", x.ofContract(0, 2), 0);
        s.due("all is missing", x.ofContract(0, 3), 20);
        s.due("all is paid back", x.account(1), 0);
        s.due("the rest at the fair price", x.account(2), 1000);
        s.due("both by the one who delivered and sold", x.account(0), -1000);
        Grainledger split = Recipes.withReceipts(1000);
        split.contract(0, 1, 0, 0, 1000, 1, 10);
        split.pass(1);
        split.split(0, 960);
        split.sell(0, 2, 0);
        split.reweigh(0, 200);
        s.due("of the part that was sold, the fair price", split.account(2), 800);
        s.due("of the part that was not, the contract's", split.account(1), -10000 + 300);
        s.due("so much is missing", split.ofContract(0, 3), 30);
    }

    private static void nothingIsPaid() {
        Grainledger x = Recipes.withReceipts(1000);
        x.terms(0, 20, 1000);
        x.contract(0, 1, 0, 0, 1001, 1, 10);
        x.pass(1);
        s.due("the penalty of settling", x.account(1), -10000 + 1000);
        x.reweigh(0, 200);
        s.due("no penalty by a weight told anew", x.account(1), -10000 + 1000 + 700);
        s.due("nor is one paid", x.account(0), 10000 - 1000 - 700);
        s.due("though more is missing", x.ofContract(0, 3), 71);
        Grainledger own = Recipes.withReceipts(1000);
        own.sell(0, 1, 0);
        own.contract(1, 0, 0, 0, 1000, 1, 10);
        own.pass(1);
        own.reweigh(0, 200);
        s.due("one's own with a contract: nothing is paid", own.account(0), -10000);
        s.due("nor paid back", own.account(1), 10000);
        s.due("handed over is the same", own.ofContract(0, 2), 1000);
        s.due("missing is the same", own.ofContract(0, 3), 0);
        s.due("but it is taken", own.receipt(0, 0), 930);
        Grainledger plain = Recipes.withReceipts(1000);
        plain.reweigh(0, 200);
        s.due("one's own without contract: nothing is paid", plain.account(0), 0);
    }

    private static void nothingIsNotPledged() {
        Grainledger x = Recipes.withReceipts(70, 930);
        x.pledge(0, 1, 9, 5);
        x.pledge(1, 2, 8, 5);
        x.reweigh(0, 200);
        for (int what = 4; what < 7; what++) {
            s.due("what has nothing, " + what, x.receipt(0, what), -1);
        }
        s.noState("it is not redeemed", () -> x.redeem(0));
        x.reweigh(0, 300);
        int[] pledged = {2, 8, 5};
        for (int what = 4; what < 7; what++) {
            s.due("what has something, " + what, x.receipt(1, what), pledged[what - 4]);
        }
        x.pass(6);
        s.due("what has nothing is its holder's still", x.receipt(0, 1), 0);
        s.due("what has something is the other's", x.receipt(1, 1), 2);
        Grainledger one = Recipes.withReceipts(71, 929);
        one.pledge(0, 1, 9, 5);
        one.reweigh(0, 200);
        s.due("a kilogram left: pledged still", one.receipt(0, 4), 1);
    }

    private static void anotherSilo() {
        anEmptySilo();
        int[][] table = {{1, 140, 0}, {0, 141, 0}, {0, 140, 1}};
        for (int[] row : table) {
            Grainledger x = Recipes.withReceipts(1000);
            x.takeOut(0);
            x.deliver(0, row[0], 1000, row[1]);
            int dry = x.delivery(1, 0);
            x.reweigh(0, 200);
            String what = "the silo has grain " + row[0] + " at " + row[1];
            s.due(what + ", owed", x.owes(0), row[2] == 1 ? 0 : 70);
            s.due(what + ", what is in it", x.receipt(1, 0), dry - (row[2] == 1 ? 70 : 0));
            x.reweigh(0, 140);
            s.due(what + ", more: owed", x.owes(0), 0);
            s.due(what + ", more: receipts", x.receipts(), 2 + row[2]);
            s.due(what + ", content", x.ofSilo(0, 0), dry);
        }
    }

    private static void anEmptySilo() {
        Grainledger x = withNineHundred(1000);
        x.takeOut(0);
        s.due("more, of an empty silo", x.reweigh(0, 140), 100);
        s.due("owed is below 0", x.owes(0), -100);
        s.due("no receipt", x.receipts(), 1);
        s.due("no content", x.ofSilo(0, 0), 0);
        s.due("less, of an empty silo", x.reweigh(0, 300), -187);
        s.due("all of it is owed", x.owes(0), 87);
        s.due("the same again", x.reweigh(0, 300), 0);
        s.due("is owed still", x.owes(0), 87);
        s.due("the dry weight is told all the same", x.delivery(0, 0), 813);
        Grainledger one = Recipes.withReceipts(999, 1);
        one.takeOut(0);
        one.reweigh(0, 200);
        s.due("one kilogram: not empty", one.receipt(1, 0), 0);
        s.due("so one less is owed", one.owes(0), 69);
        Grainledger elsewhere = Recipes.withSilos(1000, 1000);
        elsewhere.deliver(0, 0, 1000, 140);
        elsewhere.deliver(0, 0, 1000, 140);
        elsewhere.takeOut(0);
        elsewhere.reweigh(0, 200);
        s.due("an alike silo that is another one has no part", elsewhere.receipt(1, 0), 1000);
        s.due("all is owed", elsewhere.owes(0), 70);
        Grainledger full = Recipes.full();
        full.reweigh(0, 300);
        for (int i = 0; i < 80; i++) {
            full.takeOut(i);
        }
        s.due("more, of an empty silo, with 80 receipts", full.reweigh(0, 226), 87);
        s.due("owed less by that", full.owes(0), -87);
    }

    private static void none() {
        s.due("NONE", Grainledger.NONE, -1);
        Grainledger x = Recipes.withReceipts(100);
        for (int what = 4; what < 8; what++) {
            s.due("a receipt without, " + what, x.receipt(0, what), Grainledger.NONE);
        }
        x.silo(1000);
        s.due("an empty silo's grain", x.ofSilo(1, 1), Grainledger.NONE);
        s.due("an empty silo's grade", x.ofSilo(1, 2), Grainledger.NONE);
        x.pass(1);
        x.split(0, 1);
        s.due("ahead of the day", x.ownerOn(1, 0), Grainledger.NONE);
    }
}
