/** The calls of the face by name, so that runs of them can be told as data. */
final class Calls {
    static final String[] NAMES = {"silo", "terms", "deliver", "split", "sell", "pledge", "redeem", "takeOut",
        "reweigh", "contract", "pass", "receipt", "receipts", "delivery", "ofContract", "ofSilo", "contentAnew",
        "account", "owes", "holds", "ownerOn"};
    static final int[] ARGUMENTS = {1, 3, 4, 2, 3, 4, 1, 1, 2, 7, 1, 2, 0, 2, 2, 2, 1, 1, 1, 3, 2};

    private Calls() {
    }

    static long call(Grainledger x, String name, int[] a) {
        switch (name) {
            case "silo": return x.silo(a[0]);
            case "terms":
                x.terms(a[0], a[1], a[2]);
                return 0;
            case "deliver": return x.deliver(a[0], a[1], a[2], a[3]);
            case "split": return x.split(a[0], a[1]);
            case "sell": return x.sell(a[0], a[1], a[2]);
            case "pledge": return x.pledge(a[0], a[1], a[2], a[3]);
            case "redeem": return x.redeem(a[0]);
            case "takeOut": return x.takeOut(a[0]);
            case "reweigh": return x.reweigh(a[0], a[1]);
            case "contract": return x.contract(a[0], a[1], a[2], a[3], a[4], a[5], a[6]);
            case "pass": return x.pass(a[0]);
            case "receipt": return x.receipt(a[0], a[1]);
            case "receipts": return x.receipts();
            case "delivery": return x.delivery(a[0], a[1]);
            case "ofContract": return x.ofContract(a[0], a[1]);
            case "ofSilo": return x.ofSilo(a[0], a[1]);
            case "contentAnew": return x.contentAnew(a[0]);
            case "account": return x.account(a[0]);
            case "owes": return x.owes(a[0]);
            case "holds": return x.holds(a[0], a[1], a[2]);
            case "ownerOn": return x.ownerOn(a[0], a[1]);
            default: throw new AssertionError(name);
        }
    }

    /** All that can be asked of an object, but for the owners of each day. */
    static String all(Grainledger x) {
        StringBuilder out = new StringBuilder();
        ask(out, x, "receipt", x.receipts(), 8);
        ask(out, x, "delivery", 41, 4);
        ask(out, x, "ofContract", 31, 4);
        ask(out, x, "ofSilo", 7, 4);
        for (int i = 0; i < 6; i++) {
            out.append(" holder").append(i).append(',').append(x.account(i)).append(',').append(x.owes(i));
            for (int kind = 0; kind < 9; kind++) {
                out.append(',').append(x.holds(i, kind / 3, kind % 3));
            }
        }
        return out.toString();
    }

    /** Of each number up to the first that is none. */
    private static void ask(StringBuilder out, Grainledger x, String name, int count, int whats) {
        boolean isThere = true;
        for (int i = 0; i < count && isThere; i++) {
            out.append(' ').append(name).append(i);
            for (int what = 0; what < whats && isThere; what++) {
                int[] a = {i, what};
                String outcome = Checks.outcome(() -> call(x, name, a));
                out.append(',').append(outcome);
                isThere = !outcome.startsWith("throws.");
            }
        }
    }

    /** Numbers that look like chance, but are the same in every run. */
    static final class Dice {
        private long state;

        Dice(long seed) {
            state = seed * 0x9E3779B97F4A7C15L + 1;
        }

        int below(int bound) {
            state = state * 6364136223846793005L + 1442695040888963407L;
            return (int) ((state >>> 33) % bound);
        }

        int from(int least, int most) {
            return least + below(most - least + 1);
        }

        int oneOf(int... values) {
            return values[below(values.length)];
        }
    }
}
