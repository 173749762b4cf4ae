import java.io.IOException;

/** What stands under "Receipts": each sentence that names an edge has a test of its own. */
public final class EdgesOfReceiptsTest {
    private static Sentences s;

    public static void main(String[] args) throws IOException {
        s = new Sentences();
        s.under("Receipts");
        s.edge("A receipt is for some kilograms in a silo, of a delivery, and has a holder; it is LIVE as long as it "
                + "has a kilogram.", EdgesOfReceiptsTest::live);
        s.edge("Receipts are numbered from 0 as they are made, at most 80.", EdgesOfReceiptsTest::eightyReceipts);
        s.edge("The one who delivers gets one for the dry weight.", EdgesOfReceiptsTest::ofTheOneWhoDelivers);
        s.edge("A receipt that is split has less by what the new one is for; that has the same holder, silo, delivery, "
                + "and contract.", EdgesOfReceiptsTest::splitToOneKilogram);
        s.edge("A receipt can be pledged to another holder for a sum, which that one pays to its holder, up to a day; "
                + "it is redeemed by paying the sum back.", EdgesOfReceiptsTest::pledgedAndRedeemed);
        s.edge("If it is not by the end of that day, the other one is its holder, and it is pledged no more.",
                EdgesOfReceiptsTest::notRedeemed);
        s.edge("What is pledged cannot be split, sold, taken out, or handed over.",
                EdgesOfReceiptsTest::pledgedCannot);
        s.edge("To take a receipt out is to take its kilograms out of the silo; it is not LIVE then, and keeps its "
                + "silo, delivery and contract.", EdgesOfReceiptsTest::takenOut);
        s.edge("A silo without content is empty.", EdgesOfReceiptsTest::emptySilo);
        s.end();
    }

    private static void live() {
        Grainledger x = Recipes.withReceipts(1, 99);
        s.due("a kilogram can be sold", x.sell(0, 1, 0), 0);
        s.due("a kilogram can be pledged", x.pledge(0, 2, 0, 0), 0);
        s.due("a kilogram can be redeemed", x.redeem(0), 0);
        s.due("a kilogram is held", x.holds(1, 0, 0), 1);
        x.contract(1, 2, 0, 0, 1, 1, 0);
        x.pass(1);
        s.due("a kilogram is handed over", x.receipt(0, 1), 2);
        s.due("a kilogram can be taken out", x.takeOut(0), 1);
        isNotLive(x, "taken out");
        Grainledger less = Recipes.withReceipts(1, 99);
        less.reweigh(0, 141);
        isNotLive(less, "told anew");
        Grainledger lost = Recipes.withReceipts(1, 1, 1, 1, 1, 1, 1, 1, 1, 1, 1, 1, 1, 1, 1, 1, 1, 1, 1, 1);
        lost.terms(5000, 0, 0);
        lost.pass(1);
        s.due("of 20 kilograms 19 are LIVE", lost.holds(0, 0, 0), 19);
        isNotLive(lost, "lost by shrinkage");
    }

    /** Receipt 0, which has nothing; it is of delivery 0. */
    private static void isNotLive(Grainledger x, String what) {
        int holder = x.receipt(0, 1);
        s.due(what + ", it has nothing", x.receipt(0, 0), 0);
        s.noState(what + ", not split", () -> x.split(0, 1));
        s.noState(what + ", not sold", () -> x.sell(0, (holder + 1) % 6, 0));
        s.noState(what + ", not pledged", () -> x.pledge(0, (holder + 1) % 6, 0, 0));
        s.noState(what + ", not taken out", () -> x.takeOut(0));
        int contract = x.contract(holder, (holder + 1) % 6, 0, 0, 100000, 1, 0);
        x.pass(1);
        s.due(what + ", not handed over", x.receipt(0, 1), holder);
        s.due(what + ", nor has it that contract", x.receipt(0, 7) == contract ? 1 : 0, 0);
    }

    private static void eightyReceipts() {
        Grainledger x = Recipes.withSilos(1000000);
        s.due("the first", x.deliver(0, 0, 1000, 226), 0);
        s.due("by a split", x.split(0, 1), 1);
        x.reweigh(0, 225);
        s.due("by a weight told anew", x.receipts(), 3);
        s.due("its number is 2", x.receipt(2, 0), 1);
        x.contract(0, 1, 0, 2, 1, 1, 0);
        x.takeOut(1);
        x.takeOut(2);
        x.pass(1);
        s.due("by a contract", x.receipt(3, 1), 1);
        s.due("by a delivery", x.deliver(0, 0, 1000, 226), 4);
        for (int i = 5; i < 80; i++) {
            s.due("by a split", x.split(0, 1), i);
        }
        s.due("80 of them", x.receipts(), 80);
        s.noState("no split", () -> x.split(0, 1));
        s.noState("no delivery", () -> x.deliver(0, 0, 100, 226));
        s.noState("no weight that is more", () -> x.reweigh(0, 140));
        x.contract(1, 2, 0, 2, 1, 1, 0);
        x.contract(0, 2, 0, 2, 1, 1, 0);
        x.pass(1);
        s.due("none by a contract", x.receipts(), 80);
        s.noIndex("there is no receipt 80", () -> x.receipt(80, 0));
        x.takeOut(0);
        s.noState("one taken out makes no place", () -> x.split(4, 1));
    }

    private static void ofTheOneWhoDelivers() {
        Grainledger x = Recipes.withSilos(100000, 100000, 100000);
        x.deliver(5, 0, 100, 300);
        s.due("the least dry weight", x.receipt(0, 0), 81);
        s.due("its holder", x.receipt(0, 1), 5);
        x.deliver(0, 2, 40000, 140);
        s.due("the most", x.receipt(1, 0), 40000);
        s.due("its holder", x.receipt(1, 1), 0);
        s.due("one receipt each", x.receipts(), 2);
    }

    private static void splitToOneKilogram() {
        Grainledger x = Recipes.withSilos(50, 40000);
        x.deliver(0, 2, 40000, 140);
        x.contract(0, 4, 2, 0, 40000, 1, 0);
        x.pass(1);
        s.due("all but one", x.split(0, 39999), 1);
        s.due("what is left", x.receipt(0, 0), 1);
        s.due("one of many", x.split(1, 1), 2);
        s.due("has less by that", x.receipt(1, 0), 39998);
        int[] same = {1, 4, 1, 0, -1, -1, -1, 0};
        for (int what = 0; what < 8; what++) {
            s.due("the new one, " + what, x.receipt(2, what), same[what]);
        }
        s.due("no kilogram is more or less", x.contentAnew(1), 40000);
        s.due("the content is the same", x.ofSilo(1, 0), 40000);
    }

    private static void pledgedAndRedeemed() {
        Grainledger x = Recipes.withReceipts(100, 100);
        s.noState("not to its holder", () -> x.pledge(0, 0, 5, 1));
        x.pledge(0, 1, 10000000, 2);
        s.due("the sum is paid", x.account(1), -10000000);
        s.due("to its holder", x.account(0), 10000000);
        x.pledge(1, 2, 0, 0);
        s.due("a sum of 0", x.receipt(1, 5), 0);
        s.due("redeemed on the day that it was pledged", x.redeem(1), 0);
        x.pass(2);
        s.due("redeemed on the last day", x.redeem(0), 10000000);
        s.due("paid back", x.account(0), 0);
        s.due("to the other", x.account(1), 0);
        s.due("pledged no more", x.receipt(0, 4), -1);
        x.pass(1);
        s.due("redeemed, it stays its holder's", x.receipt(0, 1), 0);
        s.due("pledged anew", x.pledge(0, 3, 1, 1), 4);
    }

    private static void notRedeemed() {
        Grainledger x = Recipes.withReceipts(100, 100, 100, 100);
        x.pledge(0, 1, 9, 0);
        x.pledge(1, 2, 9, 1);
        x.pledge(2, 3, 9, 100);
        s.due("ahead of the end of the day", x.receipt(0, 1), 0);
        x.pass(1);
        s.due("behind a pledge of no days", x.receipt(0, 1), 1);
        for (int what = 4; what < 7; what++) {
            s.due("pledged no more, " + what, x.receipt(0, what), -1);
        }
        s.noState("not redeemed", () -> x.redeem(0));
        s.due("on the last day of the other", x.receipt(1, 1), 0);
        s.due("it is pledged still", x.receipt(1, 4), 2);
        x.pass(1);
        s.due("a day behind it", x.receipt(1, 1), 2);
        x.pass(30);
        x.pass(30);
        x.pass(30);
        x.pass(8);
        s.due("on day 100", x.receipt(2, 1), 0);
        x.pass(1);
        s.due("on day 101", x.receipt(2, 1), 3);
        s.due("followed to day 100", x.ownerOn(2, 100), 0);
        s.due("followed to day 101", x.ownerOn(2, 101), 3);
        s.due("nothing more is paid", x.account(3), -9);
        s.due("it can be sold by the other", x.sell(2, 0, 0), 3);
        s.due("what was not pledged stays", x.receipt(3, 1), 0);
    }

    private static void pledgedCannot() {
        Grainledger x = Recipes.withReceipts(100, 100);
        x.pledge(0, 1, 9, 3);
        s.noState("split", () -> x.split(0, 1));
        s.noState("sold", () -> x.sell(0, 2, 0));
        s.noState("sold to the other", () -> x.sell(0, 1, 0));
        s.noState("taken out", () -> x.takeOut(0));
        x.contract(0, 2, 0, 0, 200, 1, 0);
        x.pass(1);
        s.due("handed over", x.receipt(0, 1), 0);
        s.due("the next one is", x.receipt(1, 1), 2);
        s.due("half is missing", x.ofContract(0, 3), 100);
        x.redeem(0);
        s.due("redeemed, it can be split", x.split(0, 1), 2);
        s.due("sold", x.sell(0, 2, 0), 0);
        s.due("and taken out", x.takeOut(0), 99);
    }

    private static void takenOut() {
        Grainledger x = Recipes.withSilos(50, 1000);
        x.deliver(0, 0, 100, 140);
        x.deliver(0, 0, 100, 140);
        x.contract(0, 1, 0, 0, 100, 1, 0);
        x.pass(1);
        s.due("the first is taken out", x.takeOut(0), 100);
        s.due("the silo has less", x.ofSilo(1, 0), 100);
        s.due("the second is taken out", x.takeOut(1), 100);
        s.due("the silo has nothing", x.ofSilo(1, 0), 0);
        int[] handed = {0, 1, 1, 0, -1, -1, -1, 0};
        int[] other = {0, 0, 1, 1, -1, -1, -1, -1};
        for (int what = 0; what < 8; what++) {
            s.due("the first, " + what, x.receipt(0, what), handed[what]);
            s.due("the second, " + what, x.receipt(1, what), other[what]);
        }
        s.noState("not taken out twice", () -> x.takeOut(0));
        x.deliver(2, 2, 500, 300);
        s.due("whatever is in the silo by then", x.receipt(0, 2), 1);
        s.due("still nothing", x.receipt(0, 0), 0);
    }

    private static void emptySilo() {
        Grainledger x = Recipes.withReceipts(99, 1);
        x.takeOut(0);
        s.due("a kilogram: not empty", x.ofSilo(0, 1), 0);
        s.noState("not for another grain", () -> x.deliver(0, 1, 100, 140));
        s.noState("not for another grade", () -> x.deliver(0, 0, 100, 141));
        x.takeOut(1);
        s.due("empty", x.ofSilo(0, 1), -1);
        s.due("without grade", x.ofSilo(0, 2), -1);
        s.due("for another grain and grade", x.deliver(0, 1, 100, 141), 2);
        Grainledger less = Recipes.withReceipts(1, 99);
        less.takeOut(1);
        less.reweigh(0, 141);
        s.due("empty by a weight told anew", less.ofSilo(0, 1), -1);
        s.due("and of no grade", less.ofSilo(0, 2), -1);
        s.due("for another grain", less.deliver(0, 2, 100, 140), 2);
        Grainledger whole = Recipes.withSilos(100);
        whole.deliver(0, 0, 100, 140);
        whole.takeOut(0);
        s.due("emptied, all of its room is there again", whole.deliver(0, 0, 100, 140), 1);
    }
}
