import java.util.ArrayList;
import java.util.Comparator;
import java.util.List;

/**
 * The document once more, told another way: a silo holds only what its LIVE receipts say, money goes
 * kilogram by kilogram, and the owners are written down at the end of every day.
 */
final class SlowLedger {
    private static final class Paper {
        int kilograms;
        int holder;
        int delivery;
        int pledgee = -1;
        int sum = -1;
        int lastDay = -1;
        int contract = -1;
        long remainder;
    }

    private final List<int[]> silos = new ArrayList<>();
    private final List<int[]> deliveries = new ArrayList<>();
    private final List<Paper> papers = new ArrayList<>();
    private final List<int[]> contracts = new ArrayList<>();
    private final List<int[]> ownersOfDays = new ArrayList<>();
    private final long[] account = new long[6];
    private final int[] owes = new int[6];
    private int rate = 0;
    private int fair = 20;
    private int penalty = 5;
    private int today = 0;

    int paperCount() {
        return papers.size();
    }

    int deliveryCount() {
        return deliveries.size();
    }

    int contractCount() {
        return contracts.size();
    }

    int siloCount() {
        return silos.size();
    }

    int today() {
        return today;
    }

    long call(String name, int[] a) {
        switch (name) {
            case "silo":
                range(in(a[0], 1, 1000000));
                state(silos.size() < 6);
                silos.add(new int[] {a[0], 0});
                return silos.size() - 1;
            case "terms":
                range(in(a[0], 0, 5000) && in(a[1], 0, 1000) && in(a[2], 0, 1000));
                rate = a[0];
                fair = a[1];
                penalty = a[2];
                return 0;
            case "deliver": return deliver(a[0], a[1], a[2], a[3]);
            case "split": return split(a[0], a[1]);
            case "sell": return sell(a[0], a[1], a[2]);
            case "pledge": return pledge(a[0], a[1], a[2], a[3]);
            case "redeem": return redeem(a[0]);
            case "takeOut": return takeOut(a[0]);
            case "reweigh": return reweigh(a[0], a[1]);
            case "contract": return contract(a);
            case "pass":
                range(in(a[0], 1, 30));
                for (int i = 0; i < a[0]; i++) {
                    nextDay();
                }
                return today;
            default: return ask(name, a);
        }
    }

    private long ask(String name, int[] a) {
        switch (name) {
            case "receipt":
                index(in(a[0], 0, papers.size() - 1));
                range(in(a[1], 0, 7));
                Paper p = papers.get(a[0]);
                return new int[] {p.kilograms, p.holder, siloOf(p), p.delivery, p.pledgee, p.sum, p.lastDay,
                    p.contract}[a[1]];
            case "receipts": return papers.size();
            case "delivery":
                index(in(a[0], 0, deliveries.size() - 1));
                range(in(a[1], 0, 3));
                int[] d = deliveries.get(a[0]);
                return new int[] {dry(d[2], d[3]), d[5], d[4], d[0]}[a[1]];
            case "ofContract":
                index(in(a[0], 0, contracts.size() - 1));
                range(in(a[1], 0, 3));
                return contracts.get(a[0])[7 + a[1]];
            case "ofSilo":
                index(in(a[0], 0, silos.size() - 1));
                range(in(a[1], 0, 3));
                int[] kind = kindOf(a[0]);
                return new int[] {content(a[0]), kind[0], kind[1], silos.get(a[0])[1]}[a[1]];
            case "contentAnew":
                index(in(a[0], 0, silos.size() - 1));
                return content(a[0]);
            case "account":
                index(in(a[0], 0, 5));
                return account[a[0]];
            case "owes":
                index(in(a[0], 0, 5));
                return owes[a[0]];
            case "holds":
                index(in(a[0], 0, 5));
                range(in(a[1], 0, 2) && in(a[2], 0, 2));
                return papers.stream().filter(q -> q.holder == a[0] && isKind(q, a[1], a[2]))
                        .mapToLong(q -> q.kilograms).sum();
            case "ownerOn":
                index(in(a[0], 0, papers.size() - 1));
                range(in(a[1], 0, today));
                if (a[1] == today) {
                    return papers.get(a[0]).holder;
                }
                int[] owners = ownersOfDays.get(a[1]);
                return a[0] < owners.length ? owners[a[0]] : -1;
            default: throw new AssertionError(name);
        }
    }

    private static boolean in(int value, int least, int most) {
        return least <= value && value <= most;
    }

    private static void range(boolean holds) {
        if (!holds) {
            throw new IllegalArgumentException();
        }
    }

    private static void state(boolean holds) {
        if (!holds) {
            throw new IllegalStateException();
        }
    }

    private static void index(boolean holds) {
        if (!holds) {
            throw new IndexOutOfBoundsException();
        }
    }

    private int siloOf(Paper p) {
        return deliveries.get(p.delivery)[4];
    }

    private int content(int silo) {
        return papers.stream().filter(p -> siloOf(p) == silo).mapToInt(p -> p.kilograms).sum();
    }

    private int[] kindOf(int silo) {
        for (Paper p : papers) {
            if (p.kilograms > 0 && siloOf(p) == silo) {
                int[] d = deliveries.get(p.delivery);
                return new int[] {d[1], d[5]};
            }
        }
        return new int[] {-1, -1};
    }

    private boolean isKind(Paper p, int grain, int grade) {
        int[] d = deliveries.get(p.delivery);
        return p.kilograms > 0 && d[1] == grain && d[5] == grade;
    }

    private static int dry(int weight, int moisture) {
        return moisture > 140 ? (int) Math.floor(weight * (1000.0 - moisture) / 860.0 + 1e-7) : weight;
    }

    private Paper paper(int delivery, int holder, int kilograms) {
        Paper p = new Paper();
        p.delivery = delivery;
        p.holder = holder;
        p.kilograms = kilograms;
        papers.add(p);
        return p;
    }

    private int deliver(int holder, int grain, int weight, int moisture) {
        range(in(holder, 0, 5) && in(grain, 0, 2) && in(weight, 100, 40000) && in(moisture, 50, 300));
        int grade = moisture > 180 ? 2 : moisture > 140 ? 1 : 0;
        state(deliveries.size() < 40 && papers.size() < 80);
        int dry = dry(weight, moisture);
        int chosen = -1;
        for (int silo = silos.size() - 1; silo >= 0; silo--) {
            if (kindOf(silo)[0] == -1 && dry <= silos.get(silo)[0]) {
                chosen = silo;
            }
        }
        boolean isAlike = false;
        for (int silo = 0; silo < silos.size(); silo++) {
            int[] kind = kindOf(silo);
            if (!isAlike && kind[0] == grain && kind[1] == grade && content(silo) + dry <= silos.get(silo)[0]) {
                chosen = silo;
                isAlike = true;
            }
        }
        state(chosen >= 0);
        deliveries.add(new int[] {holder, grain, weight, moisture, chosen, grade});
        paper(deliveries.size() - 1, holder, dry);
        return papers.size() - 1;
    }

    private int split(int number, int kilograms) {
        index(in(number, 0, papers.size() - 1));
        range(in(kilograms, 1, 40000));
        Paper p = papers.get(number);
        state(p.kilograms > kilograms && p.pledgee == -1 && papers.size() < 80);
        p.kilograms -= kilograms;
        paper(p.delivery, p.holder, kilograms).contract = p.contract;
        return papers.size() - 1;
    }

    private Paper goesTo(int number, int to, int cents, int days) {
        index(in(number, 0, papers.size() - 1));
        range(in(to, 0, 5) && in(cents, 0, 10000000) && in(days, 0, 100));
        Paper p = papers.get(number);
        state(p.kilograms > 0 && p.pledgee == -1 && p.holder != to);
        account[to] -= cents;
        account[p.holder] += cents;
        return p;
    }

    private int sell(int number, int to, int cents) {
        Paper p = goesTo(number, to, cents, 0);
        int before = p.holder;
        p.holder = to;
        p.contract = -1;
        return before;
    }

    private int pledge(int number, int to, int cents, int days) {
        Paper p = goesTo(number, to, cents, days);
        p.pledgee = to;
        p.sum = cents;
        p.lastDay = today + days;
        return p.lastDay;
    }

    private int redeem(int number) {
        index(in(number, 0, papers.size() - 1));
        Paper p = papers.get(number);
        state(p.pledgee != -1);
        int sum = p.sum;
        account[p.pledgee] += sum;
        account[p.holder] -= sum;
        unpledge(p);
        return sum;
    }

    private static void unpledge(Paper p) {
        p.pledgee = -1;
        p.sum = -1;
        p.lastDay = -1;
    }

    private int takeOut(int number) {
        index(in(number, 0, papers.size() - 1));
        Paper p = papers.get(number);
        state(p.kilograms > 0 && p.pledgee == -1);
        int kilograms = p.kilograms;
        p.kilograms = 0;
        return kilograms;
    }

    private int reweigh(int number, int moisture) {
        index(in(number, 0, deliveries.size() - 1));
        range(in(moisture, 50, 300));
        int[] d = deliveries.get(number);
        int change = dry(d[2], moisture) - dry(d[2], d[3]);
        int[] kind = kindOf(d[4]);
        boolean alike = kind[0] == d[1] && kind[1] == d[5];
        state(!(alike && change > 0 && papers.size() >= 80));
        d[3] = moisture;
        if (!alike) {
            owes[d[0]] -= change;
        } else if (change > 0) {
            paper(number, d[0], change);
        }
        for (int kilogram = 0; alike && kilogram < -change; kilogram++) {
            takeOne(number, d);
        }
        return change;
    }

    private void takeOne(int number, int[] d) {
        Paper from = null;
        for (Paper p : papers) {
            if (from == null && p.kilograms > 0 && p.delivery == number) {
                from = p;
            }
        }
        for (Paper p : papers) {
            if (from == null && p.kilograms > 0 && p.holder == d[0] && siloOf(p) == d[4]) {
                from = p;
            }
        }
        if (from == null) {
            owes[d[0]]++;
            return;
        }
        if (from.holder != d[0]) {
            int payer = d[0];
            int price = fair;
            if (from.contract >= 0) {
                int[] k = contracts.get(from.contract);
                payer = k[0];
                price = k[6];
                k[9]--;
                k[10]++;
            }
            account[payer] -= price;
            account[from.holder] += price;
        }
        from.kilograms--;
        if (from.kilograms == 0) {
            unpledge(from);
        }
    }

    private int contract(int[] a) {
        range(in(a[0], 0, 5) && in(a[1], 0, 5) && a[0] != a[1] && in(a[2], 0, 2) && in(a[3], 0, 2)
                && in(a[4], 1, 100000) && in(a[5], 1, 100) && in(a[6], 0, 1000));
        state(contracts.size() < 30);
        contracts.add(new int[] {a[0], a[1], a[2], a[3], a[4], a[5], a[6], today + a[5], 0, 0, 0});
        return contracts.size() - 1;
    }

    private void nextDay() {
        ownersOfDays.add(papers.stream().mapToInt(p -> p.holder).toArray());
        today++;
        for (int silo = 0; silo < silos.size(); silo++) {
            shrink(silo);
        }
        for (Paper p : papers) {
            if (p.pledgee != -1 && today > p.lastDay) {
                p.holder = p.pledgee;
                p.contract = -1;
                unpledge(p);
            }
        }
        for (int number = 0; number < contracts.size(); number++) {
            if (contracts.get(number)[7] == today) {
                settle(number);
            }
        }
    }

    private void shrink(int silo) {
        long content = content(silo);
        long loss = content * rate / 100000;
        List<Paper> sharers = new ArrayList<>();
        long left = loss;
        for (Paper p : papers) {
            if (p.kilograms > 0 && siloOf(p) == silo) {
                long share = loss * p.kilograms / content;
                p.remainder = loss * p.kilograms - share * content;
                p.kilograms -= (int) share;
                left -= share;
                sharers.add(p);
            }
        }
        sharers.sort(Comparator.comparingLong(p -> -p.remainder));
        for (int i = 0; i < left; i++) {
            sharers.get(i).kilograms--;
        }
        for (Paper p : sharers) {
            if (p.kilograms == 0) {
                unpledge(p);
            }
        }
        silos.get(silo)[1] += (int) loss;
    }

    private void settle(int number) {
        int[] k = contracts.get(number);
        List<Paper> sellers = new ArrayList<>();
        for (Paper p : papers) {
            if (p.holder == k[0] && p.pledgee == -1 && isKind(p, k[2], k[3])) {
                sellers.add(p);
            }
        }
        int handed = 0;
        for (Paper p : sellers) {
            if (handed >= k[4]) {
                break;
            }
            Paper goes = p;
            int wanted = k[4] - handed;
            if (p.kilograms > wanted) {
                if (papers.size() == 80) {
                    break;
                }
                p.kilograms -= wanted;
                goes = paper(p.delivery, p.holder, wanted);
            }
            goes.holder = k[1];
            goes.contract = number;
            handed += goes.kilograms;
        }
        for (int kilogram = 0; kilogram < k[4]; kilogram++) {
            boolean isHanded = kilogram < handed;
            account[isHanded ? k[1] : k[0]] -= isHanded ? k[6] : penalty;
            account[isHanded ? k[0] : k[1]] += isHanded ? k[6] : penalty;
        }
        k[8] = 1;
        k[9] = handed;
        k[10] = k[4] - handed;
    }
}
