/** Long runs of calls: each answer is that of the document told another way. */
public final class ModelTest {
    private static final int RUNS = 3000;
    private static final int CALLS = 512;

    private final Checks c;
    private final Calls.Dice dice;
    private final int run;
    private final SlowLedger slow = new SlowLedger();
    private final Grainledger x = new Grainledger();
    // Few holders, grains and silos bring more of them together.
    private final int holders;
    private final int grains;
    private final int moistures;
    private final int weights;
    private final int days;
    private final int splits;
    private final int terms;

    private ModelTest(Checks c, int run) {
        this.c = c;
        this.run = run;
        dice = new Calls.Dice(run);
        holders = dice.from(2, 6);
        grains = dice.from(1, 3);
        moistures = dice.oneOf(140, 180, 300);
        weights = dice.oneOf(150, 1000, 40000);
        days = dice.oneOf(1, 3, 30);
        splits = dice.oneOf(1, 3, 12);
        terms = dice.oneOf(1, 2, 6);
    }

    public static void main(String[] args) {
        Checks c = new Checks();
        for (int run = 0; run < RUNS && !c.hasWrong(); run++) {
            new ModelTest(c, run).run();
        }
        c.end();
    }

    private void run() {
        for (int i = 0; i < CALLS && !c.hasWrong(); i++) {
            String name = i < 3 ? "silo" : choose();
            compare(i, name, arguments(name));
        }
    }

    private void compare(int number, String name, int[] a) {
        String got = Checks.outcome(() -> Calls.call(x, name, a));
        String want = Checks.outcome(() -> slow.call(name, a));
        if (!got.equals(want)) {
            c.due("run " + run + ", call " + number + ": " + name + java.util.Arrays.toString(a), got, want);
        } else {
            c.due("", 0, 0);
        }
    }

    private String choose() {
        int roll = dice.below(100);
        if (roll < 12) {
            return slow.siloCount() == 0 || dice.below(20) == 0 ? "silo" : "deliver";
        }
        if (roll < 12 + splits) {
            return "split";
        }
        if (roll < 12 + splits + terms) {
            return "terms";
        }
        String[] most = {"sell", "pledge", "redeem", "takeOut", "reweigh", "reweigh", "contract", "pass", "pass"};
        if (roll < 62) {
            return most[dice.below(most.length)];
        }
        return Calls.NAMES[11 + dice.below(10)];
    }

    private int holder() {
        return dice.below(60) == 0 ? dice.oneOf(-1, 6) : dice.below(holders);
    }

    private int number(int count) {
        return dice.below(60) == 0 ? dice.oneOf(-1, count) : dice.below(count + (count == 0 ? 1 : 0));
    }

    private int moisture() {
        return dice.below(60) == 0 ? dice.oneOf(49, 301)
                : dice.oneOf(140, 141, 180, 181, 300, dice.from(50, moistures));
    }

    private int weight() {
        return dice.below(60) == 0 ? dice.oneOf(99, 40001) : dice.oneOf(100, 101, weights, dice.from(100, weights));
    }

    private int what(int count) {
        return dice.below(60) == 0 ? dice.oneOf(-1, count) : dice.below(count);
    }

    private int[] arguments(String name) {
        int papers = slow.paperCount();
        switch (name) {
            case "silo": return new int[] {dice.oneOf(0, 1000000, 1000001, 5 * weights, dice.from(100, 3 * weights))};
            case "terms": return new int[] {dice.oneOf(0, 1, 100, 1000, 5000, dice.from(-20, 5000)),
                dice.oneOf(0, 20, 1000, 1001, dice.from(0, 50)), dice.oneOf(0, 1000, -1, dice.from(0, 50))};
            case "deliver": return new int[] {holder(), dice.below(grains + (dice.below(40) == 0 ? 1 : 0)), weight(),
                moisture()};
            case "split": return new int[] {number(papers), dice.oneOf(0, 1, 40000, dice.from(1, weights / 2))};
            case "sell": return new int[] {number(papers), holder(), dice.oneOf(-1, 0, 10000000, dice.below(1000))};
            case "pledge": return new int[] {number(papers), holder(), dice.below(1000),
                dice.oneOf(0, 1, 2, dice.below(20), 101)};
            case "reweigh": return new int[] {number(slow.deliveryCount()), moisture()};
            case "contract": return new int[] {holder(), holder(), dice.below(grains), dice.below(3),
                dice.oneOf(1, 100, 100000, dice.from(1, 2 * weights)), dice.oneOf(1, 2, dice.from(0, 20)),
                dice.oneOf(0, 1000, dice.below(50))};
            case "pass": return new int[] {dice.below(60) == 0 ? dice.oneOf(0, 31) : dice.from(1, days)};
            case "receipt": return new int[] {number(papers), what(8)};
            case "receipts": return new int[0];
            case "delivery": return new int[] {number(slow.deliveryCount()), what(4)};
            case "ofContract": return new int[] {number(slow.contractCount()), what(4)};
            case "ofSilo": return new int[] {number(slow.siloCount()), what(4)};
            case "contentAnew": return new int[] {number(slow.siloCount())};
            case "account":
            case "owes": return new int[] {holder()};
            case "holds": return new int[] {holder(), what(3), what(3)};
            case "ownerOn": return new int[] {number(papers), dice.from(-1, slow.today() + 1)};
            default: return new int[] {number(papers)};
        }
    }
}
