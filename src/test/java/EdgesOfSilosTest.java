import java.io.IOException;

/** What stands under "What it is" and "Terms": each sentence that names an edge has a test of its own. */
public final class EdgesOfSilosTest {
    private static final int MIN = Integer.MIN_VALUE;
    private static final int MAX = Integer.MAX_VALUE;
    private static Sentences s;

    public static void main(String[] args) throws IOException {
        s = new Sentences();
        whatItIs();
        terms();
        s.end();
    }

    private static void whatItIs() {
        s.under("What it is");
        s.plain("An exchange of grain with its silos and its weigh bridge: deliveries with weight and moisture, "
                + "grades by rule, silos that mix what is alike, receipts that are split, sold, pledged and taken out, "
                + "contracts that are settled by receipts, shrinkage that is shared by all who have a part, and "
                + "weights that are told anew, by which others have less, and contracts are opened again.");
        s.edge("An object is used for at most 512 calls after it has been made; what later calls answer is free.",
                EdgesOfSilosTest::theLastOf512Calls);
    }

    private static void terms() {
        s.under("Terms");
        s.plain("Deliveries, sales, pledges, contracts and tests are told, days pass; receipts, silos, accounts and "
                + "owners are asked.");
        s.edge("A call that throws an exception changes nothing; if several exceptions apply, the one that its throws "
                + "clause names first is thrown.", EdgesOfSilosTest::theFirstNamedIsThrown);
        s.plain("Deliveries, silos");
        s.edge("The holders are numbered 0 to 5; each has an account in cents, 0 at first, which may be below 0; who "
                + "pays has less, who is paid more.", EdgesOfSilosTest::holders);
        s.edge("Silos are numbered from 0, at most 6; a silo has a room in kilograms, and is empty, or has a content "
                + "of one grain, 0 to 2, and one grade, 0 to 2.", EdgesOfSilosTest::silos);
        s.edge("Days are counted; today is 0 at first.", EdgesOfSilosTest::todayAtFirst);
        s.plain("A delivery has a weight, in kilograms, and a moisture, in tenths of a percent.");
        s.edge("Its dry weight is the weight, if the moisture is at most 140; otherwise the weight times 1000 less the "
                + "moisture, divided by 860, rounded down.", EdgesOfSilosTest::dryWeight);
        s.edge("Its grade is 0, if the moisture is at most 140, 1, if it is at most 180, otherwise 2.",
                EdgesOfSilosTest::grade);
        s.edge("The dry weight goes into the lowest silo that has that grain and grade and has room for all of it; if "
                + "there is none, into the lowest empty one that has room for it.", EdgesOfSilosTest::chosenSilo);
        s.edge("Deliveries are numbered from 0, at most 40.", EdgesOfSilosTest::fortyDeliveries);
    }

    private static void theLastOf512Calls() {
        for (int day : new int[] {0, 1, 127, 253, 254}) {
            Grainledger x = Recipes.withSilos(1000);
            x.deliver(0, 0, 1000, 140);
            for (int i = 0; i < 254; i++) {
                x.sell(0, (i + 1) % 6, 1);
                x.pass(1);
            }
            x.sell(0, 255 % 6, 1);
            s.due("the holder of day " + day + ", asked by the 512th call", x.ownerOn(0, day), (day + 1) % 6);
        }
        Grainledger days = new Grainledger();
        for (int i = 1; i <= 512; i++) {
            s.due("pass(30), call " + i, days.pass(30), 30 * i);
        }
        Grainledger handed = Recipes.withManyReceipts(80, 1000);
        for (int i = 0; i < 30; i++) {
            handed.contract(i % 2, 1 - i % 2, 0, 0, 1000, i + 1, 0);
        }
        handed.pass(30);
        for (int receipt = 0; receipt < 80; receipt++) {
            for (int day : new int[] {0, 1, 15, 29, 30}) {
                s.due("the holder of " + receipt + " on day " + day + ", handed over each day",
                        handed.ownerOn(receipt, day), day % 2);
            }
        }
    }

    private static void theFirstNamedIsThrown() {
        rangeAheadOfState();
        indexAheadOfAll();
        Grainledger x = Recipes.busy();
        s.noRange("split, too few and not LIVE", () -> x.split(3, 0));
        s.noRange("split, too many and pledged", () -> x.split(2, 40001));
        s.noRange("sell, wrong cents and its holder", () -> x.sell(0, 0, -1));
        s.noRange("sell, no holder and pledged", () -> x.sell(2, 6, 0));
        s.noRange("sell, no holder and not LIVE", () -> x.sell(3, -1, 0));
        s.noRange("pledge, wrong days and its holder", () -> x.pledge(0, 0, 0, 101));
        s.noRange("pledge, wrong cents and pledged", () -> x.pledge(2, 1, 10000001, 0));
        s.noRange("pledge, no holder and not LIVE", () -> x.pledge(3, 6, 0, 0));
    }

    private static void rangeAheadOfState() {
        Grainledger x = Recipes.full();
        s.noRange("silo, no room and the seventh", () -> x.silo(0));
        s.noRange("deliver, no holder and full", () -> x.deliver(6, 0, 100, 226));
        s.noRange("deliver, no grain and full", () -> x.deliver(0, 3, 100, 226));
        s.noRange("deliver, no weight and full", () -> x.deliver(0, 0, 99, 226));
        s.noRange("deliver, no moisture and full", () -> x.deliver(0, 0, 100, 301));
        s.noRange("deliver, no weight and no silo", () -> new Grainledger().deliver(0, 0, 99, 226));
        s.noRange("split, too few and full", () -> x.split(0, 0));
        s.noRange("reweigh, too dry to be and full", () -> x.reweigh(0, 49));
        s.noRange("contract with oneself and full", () -> x.contract(0, 0, 0, 0, 1, 1, 1));
        s.noRange("contract, no price and full", () -> x.contract(0, 1, 0, 0, 1, 1, 1001));
    }

    private static void indexAheadOfAll() {
        Grainledger x = Recipes.full();
        s.noIndex("split, no receipt, too few and full", () -> x.split(80, 0));
        s.noIndex("split, no receipt and full", () -> x.split(-1, 1));
        s.noIndex("sell, no receipt and no holder", () -> x.sell(80, 6, -1));
        s.noIndex("pledge, no receipt and no days", () -> x.pledge(80, 6, -1, -1));
        s.noIndex("redeem, no receipt, so none that is pledged", () -> x.redeem(80));
        s.noIndex("takeOut, no receipt, so none that is LIVE", () -> x.takeOut(80));
        s.noIndex("reweigh, no delivery, no moisture and full", () -> x.reweigh(40, 301));
        s.noIndex("receipt, no receipt and no what", () -> x.receipt(80, 8));
        s.noIndex("delivery, no delivery and no what", () -> x.delivery(40, -1));
        s.noIndex("ofContract, no contract and no what", () -> x.ofContract(30, 4));
        s.noIndex("ofSilo, no silo and no what", () -> x.ofSilo(6, 4));
        s.noIndex("holds, no holder and no grain", () -> x.holds(6, 3, 0));
        s.noIndex("holds, no holder and no grade", () -> x.holds(-1, 0, 3));
        s.noIndex("ownerOn, no receipt and no day", () -> x.ownerOn(80, -1));
    }

    private static void holders() {
        Grainledger x = Recipes.withSilos(10000);
        for (int holder = 0; holder < 6; holder++) {
            s.due("account(" + holder + ") at first", x.account(holder), 0);
            s.due("deliver by " + holder, x.deliver(holder, 0, 100, 140), holder);
            s.due("the holder", x.receipt(holder, 1), holder);
        }
        for (int none : new int[] {-1, 6, MIN, MAX}) {
            s.noIndex("account(" + none + ")", () -> x.account(none));
            s.noRange("deliver by " + none, () -> x.deliver(none, 0, 100, 140));
        }
        x.sell(0, 5, 1);
        s.due("who pays a cent is below 0", x.account(5), -1);
        s.due("who is paid a cent", x.account(0), 1);
        x.sell(5, 0, 1);
        s.due("who paid is at 0 again", x.account(5), 0);
        s.due("who was paid is at 0 again", x.account(0), 0);
        s.due("another holder has no part", x.account(1), 0);
    }

    private static void silos() {
        for (int kind = 0; kind < 9; kind++) {
            int grain = kind / 3;
            int grade = kind % 3;
            Grainledger x = Recipes.withSilos(100, 99);
            s.due("empty: no grain", x.ofSilo(0, 1), -1);
            s.due("empty: no grade", x.ofSilo(0, 2), -1);
            s.due("empty: no content", x.ofSilo(0, 0), 0);
            x.deliver(0, grain, 100, new int[] {140, 180, 300}[grade]);
            s.due("its grain", x.ofSilo(0, 1), grain);
            s.due("its grade", x.ofSilo(0, 2), grade);
            s.due("the other is empty still", x.ofSilo(1, 1), -1);
        }
        Grainledger six = new Grainledger();
        for (int i = 0; i < 6; i++) {
            s.due("silo " + i, six.silo(100), i);
        }
        s.noState("a seventh", () -> six.silo(100));
        s.noIndex("there is no silo 6", () -> six.ofSilo(6, 0));
        for (int i = 0; i < 6; i++) {
            six.deliver(0, i % 3, 100, i < 3 ? 140 : 50);
            s.due("each silo's room is its own", six.delivery(i, 2), i);
        }
    }

    private static void todayAtFirst() {
        s.due("the first day that passes", new Grainledger().pass(1), 1);
        Grainledger x = Recipes.withReceipts(100);
        s.due("day 0 is today", x.ownerOn(0, 0), 0);
        s.noRange("day 1 is not yet", () -> x.ownerOn(0, 1));
        s.due("pledged until today", x.pledge(0, 1, 0, 0), 0);
        x.contract(0, 1, 0, 0, 1, 1, 0);
        s.due("the earliest day of a contract", x.ofContract(0, 0), 1);
    }

    private static void dryWeight() {
        int[][] table = {{100, 50, 100}, {100, 140, 100}, {100, 141, 99}, {100, 180, 95}, {100, 181, 95},
            {100, 300, 81}, {859, 141, 858}, {860, 141, 859}, {861, 141, 859}, {859, 300, 699}, {860, 300, 700},
            {861, 300, 700}, {860, 140, 860}, {1000, 226, 900}, {40000, 50, 40000}, {40000, 140, 40000},
            {40000, 141, 39953}, {40000, 180, 38139}, {40000, 181, 38093}, {40000, 300, 32558}};
        for (int[] row : table) {
            Grainledger x = Recipes.withSilos(40000);
            x.deliver(0, 0, row[0], row[1]);
            String what = row[0] + " kg at " + row[1];
            s.due(what, x.delivery(0, 0), row[2]);
            s.due(what + ", its receipt", x.receipt(0, 0), row[2]);
            s.due(what + ", its silo", x.ofSilo(0, 0), row[2]);
        }
    }

    private static void grade() {
        int[][] table = {{50, 0}, {139, 0}, {140, 0}, {141, 1}, {179, 1}, {180, 1}, {181, 2}, {300, 2}};
        for (int[] row : table) {
            Grainledger x = Recipes.withSilos(1000);
            x.deliver(0, 0, 100, row[0]);
            s.due("at " + row[0], x.delivery(0, 1), row[1]);
            s.due("the silo's, at " + row[0], x.ofSilo(0, 2), row[1]);
        }
    }

    private static void chosenSilo() {
        roomForAllOfIt();
        alikeAheadOfEmpty();
        Grainledger x = Recipes.withSilos(899, 900, 901);
        x.deliver(0, 0, 1000, 226);
        s.due("the dry weight needs room, not the weight", x.delivery(0, 2), 1);
        Grainledger emptied = Recipes.withSilos(1000, 1000);
        emptied.deliver(0, 0, 100, 140);
        emptied.deliver(0, 1, 100, 140);
        emptied.takeOut(0);
        emptied.deliver(0, 2, 1000, 140);
        s.due("the lowest empty one was full ahead of it", emptied.delivery(2, 2), 0);
    }

    private static void roomForAllOfIt() {
        Grainledger x = Recipes.withSilos(99, 300, 1000, 1000);
        x.deliver(0, 0, 100, 140);
        s.due("a kilogram of room too few", x.delivery(0, 2), 1);
        x.deliver(0, 0, 201, 140);
        s.due("an alike one with a kilogram too few", x.delivery(1, 2), 2);
        x.deliver(0, 0, 200, 140);
        s.due("an alike one with room for exactly that", x.delivery(2, 2), 1);
        s.due("it is full", x.ofSilo(1, 0), 300);
        x.deliver(0, 0, 799, 140);
        s.due("the next alike one, exactly full", x.delivery(3, 2), 2);
        x.deliver(0, 0, 1000, 140);
        s.due("an empty one with room for exactly that", x.delivery(4, 2), 3);
        s.noState("all that are alike are full, and the empty one too small", () -> x.deliver(0, 0, 100, 140));
        s.noState("another grain, and the empty one too small", () -> x.deliver(0, 1, 100, 140));
        x.deliver(0, 0, 100, 141);
        s.due("99 kilograms fill the smallest", x.delivery(5, 2), 0);
    }

    private static void alikeAheadOfEmpty() {
        Grainledger x = Recipes.withSilos(100, 1000, 1000, 1000, 1000, 1000);
        x.deliver(0, 0, 500, 140);
        x.deliver(0, 0, 100, 140);
        s.due("alike and higher, not empty and lower", x.delivery(1, 2), 1);
        x.deliver(0, 1, 500, 140);
        s.due("another grain is not alike", x.delivery(2, 2), 2);
        x.deliver(0, 0, 500, 180);
        s.due("another grade is not alike", x.delivery(3, 2), 3);
        x.deliver(0, 0, 500, 140);
        s.due("alike but too full: an empty one", x.delivery(4, 2), 4);
        x.deliver(0, 0, 400, 50);
        s.due("the lowest alike one", x.delivery(5, 2), 1);
        x.deliver(0, 0, 100, 50);
        s.due("the next alike one, not the empty one", x.delivery(6, 2), 4);
    }

    private static void fortyDeliveries() {
        Grainledger x = Recipes.withSilos(1000000);
        for (int i = 0; i < 40; i++) {
            s.noIndex("no delivery " + i + " yet", () -> x.delivery(x.receipts(), 0));
            x.deliver(0, 0, 100 + i, 140);
            s.due("delivery " + i, x.delivery(i, 0), 100 + i);
            s.due("its receipt is of it", x.receipt(i, 3), i);
        }
        s.noState("a forty-first", () -> x.deliver(0, 0, 100, 140));
        s.noIndex("there is no delivery 40", () -> x.delivery(40, 0));
    }
}
