import java.util.ArrayList;

/** An exchange of grain: deliveries, silos, receipts, contracts, shrinkage, and weights told anew. */
public final class Grainledger {
    public static final int NONE = -1;

    private static final int HOLDERS = 6;
    private static final int GRAINS = 3;
    private static final int GRADES = 3;
    private static final int MOST_SILOS = 6;
    private static final int MOST_DELIVERIES = 40;
    private static final int MOST_RECEIPTS = 80;
    private static final int MOST_CONTRACTS = 30;

    private static final int MOST_ROOM = 1000000;
    private static final int MOST_RATE = 5000;
    private static final int MOST_PRICE = 1000;
    private static final int LEAST_WEIGHT = 100;
    private static final int MOST_WEIGHT = 40000;
    private static final int LEAST_MOISTURE = 50;
    private static final int MOST_MOISTURE = 300;
    private static final int MOST_CENTS = 10000000;
    private static final int MOST_DAYS_AHEAD = 100;
    private static final int MOST_DAYS_TO_PASS = 30;
    private static final int MOST_CONTRACT_WEIGHT = 100000;

    private static final int DRY_MOISTURE = 140;
    private static final int DAMP_MOISTURE = 180;
    private static final int DRY_PARTS = 860;
    private static final int ALL_PARTS = 1000;
    private static final int RATE_PARTS = 100000;

    // 512 sales and pledges, and 30 contracts that hand over 80 receipts each, stay below this;
    // it keeps an object small whose calls go on beyond what is promised.
    private static final int MOST_TENURES = 4096;

    private final ArrayList<Silo> allSilos;
    private final ArrayList<Delivery> allDeliveries;
    private final ArrayList<Receipt> allReceipts;
    private final ArrayList<Contract> allContracts;
    private final long[] accounts;
    private final int[] owed;
    private int shrinkageRate;
    private int fairPrice;
    private int penaltyPrice;
    private int today;
    private int tenures;

    public Grainledger() {
        allSilos = new ArrayList<>();
        allDeliveries = new ArrayList<>();
        allReceipts = new ArrayList<>();
        allContracts = new ArrayList<>();
        accounts = new long[HOLDERS];
        owed = new int[HOLDERS];
        shrinkageRate = 0;
        fairPrice = 20;
        penaltyPrice = 5;
        today = 0;
        tenures = 0;
    }

    // ---- silos and terms

    public int silo(int room) throws IllegalArgumentException, IllegalStateException {
        needRange(room, 1, MOST_ROOM);
        int number = allSilos.size();
        if (number >= MOST_SILOS) {
            throw new IllegalStateException("there are six silos");
        }
        allSilos.add(new Silo(number, room));
        return number;
    }

    public void terms(int rate, int fair, int penalty) throws IllegalArgumentException {
        needRange(rate, 0, MOST_RATE);
        needRange(fair, 0, MOST_PRICE);
        needRange(penalty, 0, MOST_PRICE);
        shrinkageRate = rate;
        fairPrice = fair;
        penaltyPrice = penalty;
    }

    // ---- deliveries and receipts

    public int deliver(int holder, int grain, int weight, int moisture)
            throws IllegalArgumentException, IllegalStateException {
        needRange(holder, 0, HOLDERS - 1);
        needRange(grain, 0, GRAINS - 1);
        needRange(weight, LEAST_WEIGHT, MOST_WEIGHT);
        needRange(moisture, LEAST_MOISTURE, MOST_MOISTURE);
        int grade = gradeOf(moisture);
        int dry = dryWeight(weight, moisture);
        Silo silo = siloFor(grain, grade, dry);
        if (allDeliveries.size() >= MOST_DELIVERIES || receiptsAreFull() || silo == null) {
            throw new IllegalStateException("no delivery, no receipt or no room is left");
        }
        Delivery delivery = new Delivery(allDeliveries.size(), holder, grain, grade, silo);
        delivery.weight = weight;
        delivery.dry = dry;
        allDeliveries.add(delivery);
        silo.grain = grain;
        silo.grade = grade;
        return putIn(delivery, dry);
    }

    public int split(int receipt, int kilograms)
            throws IndexOutOfBoundsException, IllegalArgumentException, IllegalStateException {
        Receipt whole = findReceipt(receipt);
        needRange(kilograms, 1, MOST_WEIGHT);
        if (whole.kilograms <= kilograms || whole.isPledged() || receiptsAreFull()) {
            throw new IllegalStateException("the receipt cannot be split");
        }
        return splitOff(whole, kilograms).number;
    }

    public int sell(int receipt, int to, int cents)
            throws IndexOutOfBoundsException, IllegalArgumentException, IllegalStateException {
        Receipt sold = findReceipt(receipt);
        needRange(to, 0, HOLDERS - 1);
        needRange(cents, 0, MOST_CENTS);
        needFreeFor(sold, to);
        int before = sold.holder();
        pay(to, before, cents);
        changeHolder(sold, to);
        return before;
    }

    public int pledge(int receipt, int to, int cents, int days)
            throws IndexOutOfBoundsException, IllegalArgumentException, IllegalStateException {
        Receipt pledged = findReceipt(receipt);
        needRange(to, 0, HOLDERS - 1);
        needRange(cents, 0, MOST_CENTS);
        needRange(days, 0, MOST_DAYS_AHEAD);
        needFreeFor(pledged, to);
        pay(to, pledged.holder(), cents);
        pledged.pledgee = to;
        pledged.sum = cents;
        pledged.lastDay = today + days;
        return pledged.lastDay;
    }

    public int redeem(int receipt) throws IndexOutOfBoundsException, IllegalStateException {
        Receipt redeemed = findReceipt(receipt);
        if (!redeemed.isPledged()) {
            throw new IllegalStateException("the receipt is not pledged");
        }
        int sum = redeemed.sum;
        pay(redeemed.holder(), redeemed.pledgee, sum);
        redeemed.endPledge();
        return sum;
    }

    public int takeOut(int receipt) throws IndexOutOfBoundsException, IllegalStateException {
        Receipt taken = findReceipt(receipt);
        if (!taken.isLive() || taken.isPledged()) {
            throw new IllegalStateException("the receipt cannot be taken out");
        }
        int kilograms = taken.kilograms;
        takeFrom(taken, kilograms);
        return kilograms;
    }

    public int reweigh(int delivery, int moisture)
            throws IndexOutOfBoundsException, IllegalArgumentException, IllegalStateException {
        Delivery weighed = findDelivery(delivery);
        needRange(moisture, LEAST_MOISTURE, MOST_MOISTURE);
        int difference = dryWeight(weighed.weight, moisture) - weighed.dry;
        boolean siloIsAlike = weighed.silo.isOf(weighed.grain, weighed.grade);
        if (difference > 0 && siloIsAlike && receiptsAreFull()) {
            throw new IllegalStateException("there are eighty receipts");
        }
        weighed.dry += difference;
        if (!siloIsAlike) {
            owe(weighed.holder, -difference);
        } else if (difference > 0) {
            putIn(weighed, difference);
        } else if (difference < 0) {
            takeBack(weighed, -difference);
        }
        return difference;
    }

    // ---- contracts and days

    public int contract(int seller, int buyer, int grain, int grade, int kilograms, int days, int price)
            throws IllegalArgumentException, IllegalStateException {
        needRange(seller, 0, HOLDERS - 1);
        needRange(buyer, 0, HOLDERS - 1);
        needRange(grain, 0, GRAINS - 1);
        needRange(grade, 0, GRADES - 1);
        needRange(kilograms, 1, MOST_CONTRACT_WEIGHT);
        needRange(days, 1, MOST_DAYS_AHEAD);
        needRange(price, 0, MOST_PRICE);
        if (seller == buyer) {
            throw new IllegalArgumentException("the buyer is the seller");
        }
        int number = allContracts.size();
        if (number >= MOST_CONTRACTS) {
            throw new IllegalStateException("there are thirty contracts");
        }
        Contract made = new Contract(number, seller, buyer, grain, grade);
        made.kilograms = kilograms;
        made.day = today + days;
        made.price = price;
        allContracts.add(made);
        return number;
    }

    public int pass(int days) throws IllegalArgumentException {
        needRange(days, 1, MOST_DAYS_TO_PASS);
        for (int i = 0; i < days; i++) {
            passOneDay();
        }
        return today;
    }

    // ---- what is asked

    public int receipt(int receipt, int what) throws IndexOutOfBoundsException, IllegalArgumentException {
        Receipt asked = findReceipt(receipt);
        switch (what) {
            case 0:
                return asked.kilograms;
            case 1:
                return asked.holder();
            case 2:
                return asked.delivery.silo.number;
            case 3:
                return asked.delivery.number;
            case 4:
                return asked.pledgee;
            case 5:
                return asked.sum;
            case 6:
                return asked.lastDay;
            case 7:
                return asked.contract == null ? NONE : asked.contract.number;
            default:
                throw new IllegalArgumentException("what is out of range");
        }
    }

    public int receipts() {
        return allReceipts.size();
    }

    public int delivery(int delivery, int what) throws IndexOutOfBoundsException, IllegalArgumentException {
        Delivery asked = findDelivery(delivery);
        switch (what) {
            case 0:
                return asked.dry;
            case 1:
                return asked.grade;
            case 2:
                return asked.silo.number;
            case 3:
                return asked.holder;
            default:
                throw new IllegalArgumentException("what is out of range");
        }
    }

    public int ofContract(int contract, int what) throws IndexOutOfBoundsException, IllegalArgumentException {
        Contract asked = findContract(contract);
        switch (what) {
            case 0:
                return asked.day;
            case 1:
                return asked.settled ? 1 : 0;
            case 2:
                return asked.handedOver;
            case 3:
                return asked.missing;
            default:
                throw new IllegalArgumentException("what is out of range");
        }
    }

    public int ofSilo(int silo, int what) throws IndexOutOfBoundsException, IllegalArgumentException {
        Silo asked = findSilo(silo);
        switch (what) {
            case 0:
                return asked.content;
            case 1:
                return asked.isEmpty() ? NONE : asked.grain;
            case 2:
                return asked.isEmpty() ? NONE : asked.grade;
            case 3:
                return asked.lost;
            default:
                throw new IllegalArgumentException("what is out of range");
        }
    }

    public int contentAnew(int silo) throws IndexOutOfBoundsException {
        Silo asked = findSilo(silo);
        int content = 0;
        for (int i = 0; i < allReceipts.size(); i++) {
            Receipt receipt = allReceipts.get(i);
            if (receipt.isLiveIn(asked)) {
                content += receipt.kilograms;
            }
        }
        return content;
    }

    public long account(int holder) throws IndexOutOfBoundsException {
        if (holder < 0 || holder >= accounts.length) {
            throw new IndexOutOfBoundsException("there is no such holder");
        }
        return accounts[holder];
    }

    public int owes(int holder) throws IndexOutOfBoundsException {
        if (holder < 0 || holder >= owed.length) {
            throw new IndexOutOfBoundsException("there is no such holder");
        }
        return owed[holder];
    }

    public int holds(int holder, int grain, int grade) throws IndexOutOfBoundsException, IllegalArgumentException {
        if (holder < 0 || holder >= HOLDERS) {
            throw new IndexOutOfBoundsException("there is no such holder");
        }
        needRange(grain, 0, GRAINS - 1);
        needRange(grade, 0, GRADES - 1);
        int kilograms = 0;
        for (int i = 0; i < allReceipts.size(); i++) {
            Receipt receipt = allReceipts.get(i);
            if (receipt.isLiveOf(holder, grain, grade)) {
                kilograms += receipt.kilograms;
            }
        }
        return kilograms;
    }

    public int ownerOn(int receipt, int day) throws IndexOutOfBoundsException, IllegalArgumentException {
        Receipt asked = findReceipt(receipt);
        needRange(day, 0, today);
        for (Tenure tenure = asked.latest; tenure != null; tenure = tenure.before) {
            if (tenure.firstDay <= day) {
                return tenure.holder;
            }
        }
        return NONE;
    }

    // ---- what the calls need

    private static void needRange(int value, int least, int most) {
        if (value < least || value > most) {
            throw new IllegalArgumentException("an argument is out of range");
        }
    }

    private static void needFreeFor(Receipt receipt, int to) {
        if (!receipt.isLive() || receipt.isPledged() || receipt.holder() == to) {
            throw new IllegalStateException("the receipt cannot go to that holder");
        }
    }

    private Silo findSilo(int number) {
        if (number < 0 || number >= allSilos.size()) {
            throw new IndexOutOfBoundsException("there is no such silo");
        }
        return allSilos.get(number);
    }

    private Delivery findDelivery(int number) {
        if (number < 0 || number >= allDeliveries.size()) {
            throw new IndexOutOfBoundsException("there is no such delivery");
        }
        return allDeliveries.get(number);
    }

    private Receipt findReceipt(int number) {
        if (number < 0 || number >= allReceipts.size()) {
            throw new IndexOutOfBoundsException("there is no such receipt");
        }
        return allReceipts.get(number);
    }

    private Contract findContract(int number) {
        if (number < 0 || number >= allContracts.size()) {
            throw new IndexOutOfBoundsException("there is no such contract");
        }
        return allContracts.get(number);
    }

    private boolean receiptsAreFull() {
        return allReceipts.size() >= MOST_RECEIPTS;
    }

    // ---- money and kilograms

    private void pay(int from, int to, long cents) {
        if (from >= 0 && from < accounts.length && to >= 0 && to < accounts.length) {
            accounts[from] -= cents;
            accounts[to] += cents;
        }
    }

    private void owe(int holder, int kilograms) {
        if (holder >= 0 && holder < owed.length) {
            owed[holder] += kilograms;
        }
    }

    private static int gradeOf(int moisture) {
        if (moisture <= DRY_MOISTURE) {
            return 0;
        }
        return moisture <= DAMP_MOISTURE ? 1 : 2;
    }

    private static int dryWeight(int weight, int moisture) {
        if (moisture <= DRY_MOISTURE) {
            return weight;
        }
        return weight * (ALL_PARTS - moisture) / DRY_PARTS;
    }

    private Silo siloFor(int grain, int grade, int kilograms) {
        for (int i = 0; i < allSilos.size(); i++) {
            Silo silo = allSilos.get(i);
            if (silo.isOf(grain, grade) && silo.hasRoomFor(kilograms)) {
                return silo;
            }
        }
        for (int i = 0; i < allSilos.size(); i++) {
            Silo silo = allSilos.get(i);
            if (silo.isEmpty() && silo.hasRoomFor(kilograms)) {
                return silo;
            }
        }
        return null;
    }

    private int putIn(Delivery delivery, int kilograms) {
        delivery.silo.content += kilograms;
        return makeReceipt(delivery, delivery.holder, kilograms).number;
    }

    private void takeFrom(Receipt receipt, int kilograms) {
        receipt.kilograms -= kilograms;
        receipt.delivery.silo.content -= kilograms;
        if (!receipt.isLive()) {
            receipt.endPledge();
        }
    }

    // ---- receipts

    private Receipt makeReceipt(Delivery delivery, int holder, int kilograms) {
        Receipt made = new Receipt(allReceipts.size(), delivery, new Tenure(today, holder, null));
        made.kilograms = kilograms;
        allReceipts.add(made);
        return made;
    }

    private Receipt splitOff(Receipt whole, int kilograms) {
        Receipt made = makeReceipt(whole.delivery, whole.holder(), kilograms);
        made.contract = whole.contract;
        whole.kilograms -= kilograms;
        return made;
    }

    private void changeHolder(Receipt receipt, int holder) {
        receipt.contract = null;
        Tenure latest = receipt.latest;
        // Only the holder at a day's end is ever asked, so one tenure a day is enough.
        if (latest.firstDay == today || tenures >= MOST_TENURES) {
            latest.holder = holder;
        } else {
            receipt.latest = new Tenure(today, holder, latest);
            tenures++;
        }
    }

    // ---- weights told anew

    private void takeBack(Delivery delivery, int kilograms) {
        int left = kilograms;
        for (int i = 0; i < allReceipts.size() && left > 0; i++) {
            Receipt receipt = allReceipts.get(i);
            if (receipt.delivery == delivery) {
                left -= takeBackFrom(receipt, delivery.holder, left);
            }
        }
        // The delivery's own receipts have nothing more to give here, so all of the holder's may be asked.
        for (int i = 0; i < allReceipts.size() && left > 0; i++) {
            Receipt receipt = allReceipts.get(i);
            if (receipt.delivery.silo == delivery.silo && receipt.holder() == delivery.holder) {
                left -= takeBackFrom(receipt, delivery.holder, left);
            }
        }
        owe(delivery.holder, left);
    }

    private int takeBackFrom(Receipt receipt, int deliverer, int most) {
        int taken = Math.min(receipt.kilograms, most);
        if (receipt.holder() != deliverer) {
            payForTaken(receipt, deliverer, taken);
        }
        takeFrom(receipt, taken);
        return taken;
    }

    private void payForTaken(Receipt receipt, int deliverer, int taken) {
        Contract contract = receipt.contract;
        if (contract == null) {
            pay(deliverer, receipt.holder(), (long) taken * fairPrice);
        } else {
            pay(contract.seller, receipt.holder(), (long) taken * contract.price);
            contract.handedOver -= taken;
            contract.missing += taken;
        }
    }

    // ---- days

    private void passOneDay() {
        today++;
        for (int i = 0; i < allSilos.size(); i++) {
            shrink(allSilos.get(i));
        }
        for (int i = 0; i < allReceipts.size(); i++) {
            forfeitIfDue(allReceipts.get(i));
        }
        for (int i = 0; i < allContracts.size(); i++) {
            Contract contract = allContracts.get(i);
            if (contract.day == today && !contract.settled) {
                settle(contract);
            }
        }
    }

    private void shrink(Silo silo) {
        int content = silo.content;
        int loss = (int) ((long) content * shrinkageRate / RATE_PARTS);
        if (content <= 0 || loss <= 0) {
            return;
        }
        int left = loss;
        for (int i = 0; i < allReceipts.size(); i++) {
            Receipt receipt = allReceipts.get(i);
            if (receipt.isLiveIn(silo)) {
                long part = (long) loss * receipt.kilograms;
                int share = (int) (part / content);
                receipt.remainder = (int) (part % content);
                takeFrom(receipt, share);
                left -= share;
            }
        }
        bearOneEach(silo, left);
        silo.lost += loss;
    }

    private void bearOneEach(Silo silo, int kilograms) {
        for (int i = 0; i < kilograms && i < MOST_RECEIPTS; i++) {
            Receipt next = greatestRemainder(silo);
            if (next != null) {
                next.remainder = NONE;
                takeFrom(next, 1);
            }
        }
    }

    private Receipt greatestRemainder(Silo silo) {
        Receipt greatest = null;
        int remainder = NONE;
        for (int i = 0; i < allReceipts.size(); i++) {
            Receipt receipt = allReceipts.get(i);
            if (receipt.remainder > remainder && receipt.isLiveIn(silo)) {
                greatest = receipt;
                remainder = receipt.remainder;
            }
        }
        return greatest;
    }

    private void forfeitIfDue(Receipt receipt) {
        if (receipt.isPledged() && receipt.lastDay < today) {
            int pledgee = receipt.pledgee;
            receipt.endPledge();
            changeHolder(receipt, pledgee);
        }
    }

    private void settle(Contract contract) {
        int missing = handOver(contract);
        int handedOver = contract.kilograms - missing;
        contract.settled = true;
        contract.handedOver = handedOver;
        contract.missing = missing;
        pay(contract.buyer, contract.seller, (long) handedOver * contract.price);
        pay(contract.seller, contract.buyer, (long) missing * penaltyPrice);
    }

    private int handOver(Contract contract) {
        int missing = contract.kilograms;
        int count = allReceipts.size();
        for (int i = 0; i < count && i < allReceipts.size() && missing > 0; i++) {
            Receipt receipt = allReceipts.get(i);
            if (!receipt.isPledged() && receipt.isLiveOf(contract.seller, contract.grain, contract.grade)) {
                if (receipt.kilograms > missing) {
                    if (receiptsAreFull()) {
                        return missing;
                    }
                    receipt = splitOff(receipt, missing);
                }
                changeHolder(receipt, contract.buyer);
                receipt.contract = contract;
                missing -= receipt.kilograms;
            }
        }
        return missing;
    }

    private static final class Silo {
        final int number;
        final int room;
        int grain;
        int grade;
        int content;
        int lost;

        Silo(int number, int room) {
            this.number = number;
            this.room = room;
            this.grain = NONE;
            this.grade = NONE;
        }

        boolean isEmpty() {
            return content <= 0;
        }

        boolean isOf(int otherGrain, int otherGrade) {
            return content > 0 && grain == otherGrain && grade == otherGrade;
        }

        boolean hasRoomFor(int kilograms) {
            return kilograms <= room - content;
        }
    }

    private static final class Delivery {
        final int number;
        final int holder;
        final int grain;
        final int grade;
        final Silo silo;
        int weight;
        int dry;

        Delivery(int number, int holder, int grain, int grade, Silo silo) {
            this.number = number;
            this.holder = holder;
            this.grain = grain;
            this.grade = grade;
            this.silo = silo;
        }
    }

    private static final class Receipt {
        final int number;
        final Delivery delivery;
        Tenure latest;
        int kilograms;
        int pledgee;
        int sum;
        int lastDay;
        Contract contract;
        // Of the division by which the silo's last loss was shared.
        int remainder;

        Receipt(int number, Delivery delivery, Tenure latest) {
            this.number = number;
            this.delivery = delivery;
            this.latest = latest;
            this.pledgee = NONE;
            this.sum = NONE;
            this.lastDay = NONE;
            this.remainder = NONE;
        }

        int holder() {
            return latest.holder;
        }

        boolean isLive() {
            return kilograms > 0;
        }

        boolean isLiveIn(Silo silo) {
            return kilograms > 0 && delivery.silo == silo;
        }

        boolean isLiveOf(int holder, int grain, int grade) {
            return kilograms > 0 && latest.holder == holder && delivery.silo.isOf(grain, grade);
        }

        boolean isPledged() {
            return pledgee != NONE;
        }

        void endPledge() {
            pledgee = NONE;
            sum = NONE;
            lastDay = NONE;
        }
    }

    private static final class Contract {
        final int number;
        final int seller;
        final int buyer;
        final int grain;
        final int grade;
        int kilograms;
        int day;
        int price;
        boolean settled;
        int handedOver;
        int missing;

        Contract(int number, int seller, int buyer, int grain, int grade) {
            this.number = number;
            this.seller = seller;
            this.buyer = buyer;
            this.grain = grain;
            this.grade = grade;
        }
    }

    /** From its first day until the next one's, a receipt has this holder. */
    private static final class Tenure {
        final int firstDay;
        final Tenure before;
        int holder;

        Tenure(int firstDay, int holder, Tenure before) {
            this.firstDay = firstDay;
            this.holder = holder;
            this.before = before;
        }
    }
}
