/** Objects that tests begin with; each recipe stays far below 512 calls. */
final class Recipes {
    private Recipes() {
    }

    static Grainledger withSilos(int... rooms) {
        Grainledger x = new Grainledger();
        for (int room : rooms) {
            x.silo(room);
        }
        return x;
    }

    /**
     * Holder 0's receipts 0, 1, .. of delivery 0 in silo 0, of grain 0 and grade 0. For less than the least
     * delivery, what is too much stands in one receipt more, which is taken out.
     */
    static Grainledger withReceipts(int... kilograms) {
        int sum = 0;
        for (int one : kilograms) {
            sum += one;
        }
        Grainledger x = withSilos(1000000);
        x.deliver(0, 0, Math.max(sum, 100), 140);
        for (int i = 1; i < kilograms.length; i++) {
            x.split(0, kilograms[i]);
        }
        if (sum < 100) {
            x.takeOut(x.split(0, 100 - sum));
        }
        return x;
    }

    /** As many receipts of holder 0, each but the first for one kilogram. */
    static Grainledger withManyReceipts(int receipts, int sum) {
        int[] kilograms = new int[receipts];
        java.util.Arrays.fill(kilograms, 1);
        kilograms[0] = sum - receipts + 1;
        return withReceipts(kilograms);
    }

    /** A silo whose content is so much, of deliveries by holder 0. */
    static Grainledger withContent(int content) {
        if (content < 200) {
            return withReceipts(content);
        }
        Grainledger x = withSilos(1000000);
        int left = content;
        while (left > 0) {
            int part = left > 40100 ? 40000 : left > 40000 ? 39900 : left;
            x.deliver(0, 0, part, 140);
            left -= part;
        }
        return x;
    }

    /** Three silos, two deliveries, and receipts of which each is another way: held, handed over, pledged, out. */
    static Grainledger busy() {
        Grainledger x = withSilos(1000, 2000, 3000);
        x.terms(1000, 30, 7);
        x.deliver(0, 0, 1000, 140);
        x.deliver(1, 1, 1000, 226);
        x.split(0, 300);
        x.split(0, 200);
        x.contract(0, 2, 0, 0, 250, 1, 10);
        x.contract(1, 3, 1, 2, 5000, 3, 10);
        x.pass(1);
        x.pledge(2, 4, 500, 1);
        x.takeOut(3);
        return x;
    }

    /** As many silos, deliveries, receipts and contracts as there can be. */
    static Grainledger full() {
        Grainledger x = withSilos(1000000, 1000000, 1000000, 1000000, 1000000, 1000000);
        for (int i = 0; i < 40; i++) {
            x.deliver(i % 6, 0, 1000, 226);
        }
        for (int i = 0; i < 40; i++) {
            x.split(i, 100);
        }
        for (int i = 0; i < 30; i++) {
            x.contract(i % 6, (i + 1) % 6, 0, 2, 100 * i + 1, 2, i);
        }
        return x;
    }
}
