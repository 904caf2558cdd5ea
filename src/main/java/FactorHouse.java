/**
 * Invoices turned into money: sellers, buyers and factors, with what is owed, assigned, paid,
 * advanced and pooled. Inside, an invoice is a Bill, and a factor stands in a slot: the factor 4 in
 * slot 0, and so on.
 */
public final class FactorHouse {
    public static final int NONE = -1;

    private static final int SELLERS = 4;
    private static final int FACTORS = 3;
    private static final int PARTIES = SELLERS + FACTORS;
    private static final int BUYERS = 5;
    private static final int MAX_BILLS = 40;
    private static final int MAX_STRAYS = 30;
    private static final int MAX_CALLS = 512;
    private static final int MAX_CENTS = 1000000;
    private static final int MAX_LIMIT = 100000000;
    private static final int MAX_DAYS_TO_DUE = 300;
    private static final int MAX_DAYS_TO_PASS = 100;
    private static final int LAST_DAY = 3000;
    private static final int OLD_AFTER = 60;
    private static final int RECOURSE_AFTER = 90;
    private static final int MAX_INTEREST = 9;
    private static final int FINANCED_HUNDREDTHS = 90;
    private static final int TRIGGER_TIMES = 10;

    private final Bill[] bills = new Bill[MAX_BILLS];
    private int billCount = 0;
    private final Stray[] strays = new Stray[MAX_STRAYS];
    private int strayCount = 0;
    private final Funder[] funders = new Funder[FACTORS];
    private final Journal journal = new Journal();
    private final Matching matching = new Matching();
    private final long[] partyPurses = new long[PARTIES];
    private final long[] buyerPurses = new long[BUYERS];
    private final boolean[] hasFailed = new boolean[SELLERS];
    private final long[] countedByBuyer = new long[BUYERS];
    private int today = 0;
    private int lastTurn = 0;
    private int pooledCount = 0;
    private long everPooled = 0;
    private long badPooled = 0;

    public FactorHouse() {
        for (int number = 0; number < MAX_BILLS; number++) {
            bills[number] = new Bill();
        }
        for (int number = 0; number < MAX_STRAYS; number++) {
            strays[number] = new Stray();
        }
        for (int slot = 0; slot < FACTORS; slot++) {
            funders[slot] = new Funder();
        }
    }

    // ---- invoices

    public int invoice(int seller, int buyer, int amount, int days)
            throws IndexOutOfBoundsException, IllegalArgumentException, IllegalStateException {
        checkSeller(seller);
        checkBuyer(buyer);
        checkRange(amount, 1, MAX_CENTS);
        checkRange(days, 0, MAX_DAYS_TO_DUE);
        if (billCount >= MAX_BILLS) {
            throw new IllegalStateException("there are 40 invoices");
        }
        checkNotFailed(seller);
        int number = billCount;
        bills[number].begin(seller, buyer, amount, today + days);
        billCount++;
        return number;
    }

    public int credit(int invoice, int amount)
            throws IndexOutOfBoundsException, IllegalArgumentException {
        checkBill(invoice);
        checkRange(amount, 1, bills[invoice].owed);
        takeOff(invoice, amount);
        return bills[invoice].owed;
    }

    public boolean dispute(int invoice, boolean isDisputed) throws IndexOutOfBoundsException {
        checkBill(invoice);
        boolean wasDisputed = bills[invoice].isDisputed;
        bills[invoice].isDisputed = isDisputed;
        return wasDisputed;
    }

    // ---- assignments

    public int assign(int invoice, int factor, boolean isNotice)
            throws IndexOutOfBoundsException, IllegalStateException {
        checkBill(invoice);
        checkFactor(factor);
        Bill bill = bills[invoice];
        int slot = factor - SELLERS;
        if (bill.wasAssigned[slot]) {
            throw new IllegalStateException("it was assigned to this factor");
        }
        if (bill.owed == 0) {
            throw new IllegalStateException("nothing is owed");
        }
        checkNotFailed(bill.seller);
        lastTurn++;
        bill.wasAssigned[slot] = true;
        bill.assignedTurns[slot] = lastTurn;
        if (isNotice) {
            bill.noticeTurns[slot] = lastTurn;
        }
        return bill.owner();
    }

    public int notice(int invoice, int factor)
            throws IndexOutOfBoundsException, IllegalStateException {
        checkAssignment(invoice, factor);
        return firstTime(bills[invoice], bills[invoice].noticeTurns, factor - SELLERS);
    }

    public int register(int invoice, int factor)
            throws IndexOutOfBoundsException, IllegalStateException {
        checkAssignment(invoice, factor);
        return firstTime(bills[invoice], bills[invoice].registerTurns, factor - SELLERS);
    }

    public int giveBack(int invoice, int factor)
            throws IndexOutOfBoundsException, IllegalStateException {
        checkAssignment(invoice, factor);
        bills[invoice].endAssignment(factor - SELLERS);
        return bills[invoice].owner();
    }

    public int invoiceIs(int invoice, int what)
            throws IndexOutOfBoundsException, IllegalArgumentException {
        checkBill(invoice);
        checkRange(what, 0, 5);
        Bill bill = bills[invoice];
        switch (what) {
            case 0:
                return bill.owed;
            case 1:
                return bill.owner();
            case 2:
                return bill.freeingParty();
            case 3:
                return bill.dueDay;
            case 4:
                return bill.isDisputed ? 1 : 0;
            default:
                int slot = countingSlot(bill);
                return slot == NONE ? NONE : SELLERS + slot;
        }
    }

    public int owedAnew(int invoice) throws IndexOutOfBoundsException {
        checkBill(invoice);
        return bills[invoice].amount - journal.takenOff(invoice);
    }

    // ---- payments

    public int pay(int invoice, int party, int amount)
            throws IndexOutOfBoundsException, IllegalArgumentException, IllegalStateException {
        checkBill(invoice);
        checkParty(party);
        checkRange(amount, 1, MAX_CENTS);
        Bill bill = bills[invoice];
        if (bill.owed == 0) {
            throw new IllegalStateException("nothing is owed");
        }
        matching.clear();
        matching.add(invoice, Math.min(amount, bill.owed));
        checkRoomForStrays(party);
        payMatched(bill.buyer, party, amount);
        return bill.owed;
    }

    public int lump(int buyer, int party, int amount)
            throws IndexOutOfBoundsException, IllegalArgumentException, IllegalStateException {
        checkBuyer(buyer);
        checkParty(party);
        checkRange(amount, 1, MAX_CENTS);
        matchLump(buyer, amount);
        checkRoomForStrays(party);
        payMatched(buyer, party, amount);
        return matching.count;
    }

    public int mend() {
        int mended = 0;
        for (int number = 0; number < strayCount; number++) {
            Stray stray = strays[number];
            if (!stray.isMended && partyPurses[stray.party] >= stray.cents) {
                mendStray(stray);
                mended++;
            }
        }
        return mended;
    }

    public long purse(int party) throws IndexOutOfBoundsException {
        checkParty(party);
        return partyPurses[party];
    }

    public long buyer(int buyer) throws IndexOutOfBoundsException {
        checkBuyer(buyer);
        return buyerPurses[buyer];
    }

    public boolean balances() {
        long sum = 0;
        for (int party = 0; party < PARTIES; party++) {
            sum += partyPurses[party];
        }
        for (int buyer = 0; buyer < BUYERS; buyer++) {
            sum += buyerPurses[buyer];
        }
        return sum == 0;
    }

    // ---- advances

    public void factor(int factor, int rate, int share, int interest)
            throws IndexOutOfBoundsException, IllegalArgumentException {
        checkFactor(factor);
        checkRange(rate, 0, 100);
        checkRange(share, 1, 100);
        checkRange(interest, 0, MAX_INTEREST);
        Funder funder = funders[factor - SELLERS];
        funder.rate = rate;
        funder.share = share;
        funder.interest = interest;
    }

    public void limit(int factor, int buyer, int cents)
            throws IndexOutOfBoundsException, IllegalArgumentException {
        checkFactor(factor);
        checkBuyer(buyer);
        checkRange(cents, 0, MAX_LIMIT);
        funders[factor - SELLERS].limits[buyer] = cents;
    }

    public long base(int factor, int seller) throws IndexOutOfBoundsException {
        checkFactor(factor);
        checkSeller(seller);
        return baseOf(factor - SELLERS, seller);
    }

    public long drawn(int factor, int seller) throws IndexOutOfBoundsException {
        checkFactor(factor);
        checkSeller(seller);
        return funders[factor - SELLERS].drawnBy[seller];
    }

    public long draw(int factor, int seller, int amount)
            throws IndexOutOfBoundsException, IllegalArgumentException, IllegalStateException {
        checkFactor(factor);
        checkSeller(seller);
        int slot = factor - SELLERS;
        long[] drawnBy = funders[slot].drawnBy;
        checkRange(amount, 1, baseOf(slot, seller) - drawnBy[seller]);
        checkNotFailed(seller);
        move(factor, seller, amount);
        drawnBy[seller] += amount;
        return drawnBy[seller];
    }

    public long recourse(int invoice) throws IndexOutOfBoundsException, IllegalStateException {
        checkBill(invoice);
        Bill bill = bills[invoice];
        int slot = bill.ownerSlot();
        if (slot == NONE) {
            throw new IllegalStateException("its owner is no factor");
        }
        if (!bill.isDisputed && today - bill.dueDay <= RECOURSE_AFTER) {
            throw new IllegalStateException("it is neither disputed nor due for so long");
        }
        bill.endAssignment(slot);
        return payBackAboveBase(slot, bill.seller);
    }

    public int fail(int seller) throws IndexOutOfBoundsException, IllegalStateException {
        checkSeller(seller);
        checkNotFailed(seller);
        hasFailed[seller] = true;
        int ended = 0;
        for (int number = 0; number < billCount; number++) {
            if (bills[number].seller == seller) {
                ended += bills[number].endSilentAssignments();
            }
        }
        return ended;
    }

    public int pass(int days) throws IllegalArgumentException, IllegalStateException {
        checkRange(days, 1, MAX_DAYS_TO_PASS);
        if (today + days > LAST_DAY) {
            throw new IllegalStateException("it would be above 3000");
        }
        for (int day = 0; day < days; day++) {
            today++;
            for (int slot = 0; slot < FACTORS; slot++) {
                funders[slot].addInterest();
            }
        }
        return today;
    }

    // ---- the pool

    public int pool(int invoice) throws IndexOutOfBoundsException, IllegalStateException {
        checkBill(invoice);
        Bill bill = bills[invoice];
        int slot = countingSlot(bill);
        if (slot == NONE) {
            throw new IllegalStateException("it counts for none");
        }
        if (bill.wasPooled) {
            throw new IllegalStateException("it was put in");
        }
        bill.wasPooled = true;
        bill.isPooled = true;
        bill.pooledSlot = slot;
        bill.pooledCents = bill.owed;
        everPooled += bill.owed;
        pooledCount++;
        return pooledCount;
    }

    public int look() {
        int takenOut = 0;
        for (int number = 0; number < billCount; number++) {
            Bill bill = bills[number];
            if (bill.isPooled && countingSlot(bill) != bill.pooledSlot) {
                takeOut(bill);
                takenOut++;
            }
        }
        return takenOut;
    }

    public long financed() {
        if (TRIGGER_TIMES * badPooled > everPooled) {
            return 0;
        }
        long worth = 0;
        for (int number = 0; number < billCount; number++) {
            if (bills[number].isPooled) {
                worth += bills[number].owed;
            }
        }
        return worth * FINANCED_HUNDREDTHS / 100;
    }

    // ---- what is refused

    private static void checkSeller(int seller) {
        if (seller < 0 || seller >= SELLERS) {
            throw new IndexOutOfBoundsException("there is no such seller");
        }
    }

    private static void checkFactor(int factor) {
        if (factor < SELLERS || factor >= PARTIES) {
            throw new IndexOutOfBoundsException("there is no such factor");
        }
    }

    private static void checkParty(int party) {
        if (party < 0 || party >= PARTIES) {
            throw new IndexOutOfBoundsException("there is no such party");
        }
    }

    private static void checkBuyer(int buyer) {
        if (buyer < 0 || buyer >= BUYERS) {
            throw new IndexOutOfBoundsException("there is no such buyer");
        }
    }

    private void checkBill(int number) {
        if (number < 0 || number >= billCount) {
            throw new IndexOutOfBoundsException("there is no such invoice");
        }
    }

    private static void checkRange(int value, int least, long most) {
        if (value < least || value > most) {
            throw new IllegalArgumentException("an argument is out of its range");
        }
    }

    private void checkNotFailed(int seller) {
        if (hasFailed[seller]) {
            throw new IllegalStateException("the seller failed");
        }
    }

    private void checkAssignment(int number, int factor) {
        checkBill(number);
        checkFactor(factor);
        if (bills[number].assignedTurns[factor - SELLERS] == 0) {
            throw new IllegalStateException("there is no such assignment");
        }
    }

    private void checkRoomForStrays(int party) {
        int wrong = 0;
        for (int i = 0; i < matching.count; i++) {
            if (bills[matching.numbers[i]].freeingParty() != party) {
                wrong++;
            }
        }
        if (strayCount + wrong > MAX_STRAYS) {
            throw new IllegalStateException("there would be more than 30 wrong payments");
        }
    }

    // ---- behind the assignments

    /** Puts a factor behind those who have a notice, or a register, already; answers the owner. */
    private int firstTime(Bill bill, int[] turns, int slot) {
        if (turns[slot] != 0) {
            throw new IllegalStateException("the assignment has it already");
        }
        lastTurn++;
        turns[slot] = lastTurn;
        return bill.owner();
    }

    // ---- behind the payments

    private void matchLump(int buyer, int amount) {
        matching.clear();
        int exact = lowestOwing(buyer, amount);
        if (exact != NONE) {
            matching.add(exact, amount);
            return;
        }
        int left = amount;
        int number = nextDue(buyer, NONE);
        for (int step = 0; step < MAX_BILLS && number != NONE && left > 0; step++) {
            int cents = Math.min(left, bills[number].owed);
            matching.add(number, cents);
            left -= cents;
            number = nextDue(buyer, number);
        }
    }

    private int lowestOwing(int buyer, int amount) {
        for (int number = 0; number < billCount; number++) {
            if (bills[number].buyer == buyer && bills[number].owed == amount) {
                return number;
            }
        }
        return NONE;
    }

    /** Answers the first open invoice of a buyer behind a given one, by days due, then numbers. */
    private int nextDue(int buyer, int behind) {
        int next = NONE;
        for (int number = 0; number < billCount; number++) {
            if (bills[number].buyer == buyer && bills[number].owed > 0
                    && (behind == NONE || isDueBefore(behind, number))
                    && (next == NONE || isDueBefore(number, next))) {
                next = number;
            }
        }
        return next;
    }

    private boolean isDueBefore(int number, int other) {
        int dueDay = bills[number].dueDay;
        int otherDay = bills[other].dueDay;
        return dueDay < otherDay || (dueDay == otherDay && number < other);
    }

    private void payMatched(int buyer, int party, int amount) {
        buyerPurses[buyer] -= amount;
        partyPurses[party] += amount;
        for (int i = 0; i < matching.count; i++) {
            int number = matching.numbers[i];
            if (bills[number].freeingParty() == party) {
                settle(number, party, matching.cents[i]);
            } else {
                addStray(number, party, matching.cents[i]);
            }
        }
    }

    private void addStray(int number, int party, int cents) {
        if (strayCount < MAX_STRAYS) {
            strays[strayCount].begin(number, party, cents);
            strayCount++;
        }
    }

    private void mendStray(Stray stray) {
        Bill bill = bills[stray.number];
        int matched = Math.min(stray.cents, bill.owed);
        int left = stray.cents - matched;
        stray.isMended = true;
        settle(stray.number, stray.party, matched);
        partyPurses[stray.party] -= left;
        buyerPurses[bill.buyer] += left;
    }

    /** Makes what is owed less by money that lies with a party, and brings it to the owner. */
    private void settle(int number, int party, int cents) {
        Bill bill = bills[number];
        takeOff(number, cents);
        move(party, bill.owner(), cents);
        int slot = bill.ownerSlot();
        if (slot != NONE) {
            long[] drawnBy = funders[slot].drawnBy;
            long repaid = Math.min(cents, drawnBy[bill.seller]);
            drawnBy[bill.seller] -= repaid;
            move(SELLERS + slot, bill.seller, cents - repaid);
        }
    }

    private void takeOff(int number, int cents) {
        bills[number].owed -= cents;
        journal.add(number, cents);
    }

    private void move(int from, int to, long cents) {
        partyPurses[from] -= cents;
        partyPurses[to] += cents;
    }

    // ---- behind the advances

    private boolean isOld(Bill bill) {
        return today - bill.dueDay > OLD_AFTER;
    }

    /** Answers the slot of the factor for whom an invoice counts. */
    private int countingSlot(Bill bill) {
        int slot = bill.ownerSlot();
        if (slot == NONE || !isSound(bill) || isMostlyOld(slot, bill.buyer)) {
            return NONE;
        }
        return slot;
    }

    private boolean isSound(Bill bill) {
        return bill.owed > 0 && !bill.isDisputed && !isOld(bill);
    }

    private boolean isMostlyOld(int slot, int buyer) {
        long all = 0;
        long old = 0;
        for (int number = 0; number < billCount; number++) {
            Bill bill = bills[number];
            if (bill.buyer == buyer && bill.ownerSlot() == slot) {
                all += bill.owed;
                old += isOld(bill) ? bill.owed : 0;
            }
        }
        return 2 * old > all;
    }

    private long countedOwed(int slot, int seller, int buyer) {
        if (isMostlyOld(slot, buyer)) {
            return 0;
        }
        long sum = 0;
        for (int number = 0; number < billCount; number++) {
            Bill bill = bills[number];
            if (bill.seller == seller && bill.buyer == buyer
                    && bill.ownerSlot() == slot && isSound(bill)) {
                sum += bill.owed;
            }
        }
        return sum;
    }

    private long baseOf(int slot, int seller) {
        Funder funder = funders[slot];
        long all = 0;
        for (int buyer = 0; buyer < BUYERS; buyer++) {
            countedByBuyer[buyer] = countedOwed(slot, seller, buyer);
            all += countedByBuyer[buyer];
        }
        long mostOfOne = all * funder.share / 100;
        long sum = 0;
        for (int buyer = 0; buyer < BUYERS; buyer++) {
            long most = Math.min(mostOfOne, funder.limits[buyer]);
            sum += Math.min(most, countedByBuyer[buyer]);
        }
        return sum * funder.rate / 100;
    }

    private long payBackAboveBase(int slot, int seller) {
        long[] drawnBy = funders[slot].drawnBy;
        long above = drawnBy[seller] - baseOf(slot, seller);
        long paid = Math.max(0L, Math.min(above, partyPurses[seller]));
        move(seller, SELLERS + slot, paid);
        drawnBy[seller] -= paid;
        return paid;
    }

    // ---- behind the pool

    private void takeOut(Bill bill) {
        bill.isPooled = false;
        pooledCount--;
        if (bill.owed > 0 && (bill.isDisputed || isOld(bill))) {
            badPooled += bill.pooledCents;
        }
    }

    /** An invoice with its assignments, by slots; of turns, which give the order, 0 is never. */
    private static final class Bill {
        private int seller = 0;
        private int buyer = 0;
        private int amount = 0;
        private int owed = 0;
        private int dueDay = 0;
        private boolean isDisputed = false;
        private final boolean[] wasAssigned = new boolean[FACTORS];
        private final int[] assignedTurns = new int[FACTORS];
        private final int[] noticeTurns = new int[FACTORS];
        private final int[] registerTurns = new int[FACTORS];
        private boolean wasPooled = false;
        private boolean isPooled = false;
        private int pooledSlot = NONE;
        private int pooledCents = 0;

        private void begin(int ofSeller, int ofBuyer, int ofCents, int onDay) {
            seller = ofSeller;
            buyer = ofBuyer;
            amount = ofCents;
            owed = ofCents;
            dueDay = onDay;
        }

        private int owner() {
            return partyIn(ownerSlot());
        }

        private int ownerSlot() {
            int slot = firstSlot(noticeTurns);
            if (slot == NONE) {
                slot = firstSlot(registerTurns);
            }
            if (slot == NONE) {
                slot = firstSlot(assignedTurns);
            }
            return slot;
        }

        private int freeingParty() {
            return partyIn(firstSlot(noticeTurns));
        }

        private int partyIn(int slot) {
            return slot == NONE ? seller : SELLERS + slot;
        }

        private static int firstSlot(int[] turns) {
            int first = NONE;
            int firstTurn = 0;
            for (int slot = 0; slot < turns.length; slot++) {
                if (turns[slot] != 0 && (first == NONE || turns[slot] < firstTurn)) {
                    first = slot;
                    firstTurn = turns[slot];
                }
            }
            return first;
        }

        private void endAssignment(int slot) {
            assignedTurns[slot] = 0;
            noticeTurns[slot] = 0;
            registerTurns[slot] = 0;
        }

        private int endSilentAssignments() {
            int ended = 0;
            for (int slot = 0; slot < FACTORS; slot++) {
                if (assignedTurns[slot] != 0 && noticeTurns[slot] == 0
                        && registerTurns[slot] == 0) {
                    endAssignment(slot);
                    ended++;
                }
            }
            return ended;
        }
    }

    /** A wrong payment. */
    private static final class Stray {
        private int number = 0;
        private int party = 0;
        private int cents = 0;
        private boolean isMended = false;

        private void begin(int ofNumber, int toParty, int ofCents) {
            number = ofNumber;
            party = toParty;
            cents = ofCents;
        }
    }

    /** What a factor tells, and what the sellers have drawn from him. */
    private static final class Funder {
        private int rate = 80;
        private int share = 100;
        private int interest = 3;
        private final int[] limits = new int[BUYERS];
        private final long[] drawnBy = new long[SELLERS];

        private void addInterest() {
            for (int seller = 0; seller < SELLERS; seller++) {
                drawnBy[seller] += drawnBy[seller] * interest / 10000;
            }
        }
    }

    /** The invoices to which a payment is matched, kept from call to call to save room. */
    private static final class Matching {
        private final int[] numbers = new int[MAX_BILLS];
        private final int[] cents = new int[MAX_BILLS];
        private int count = 0;

        private void clear() {
            count = 0;
        }

        private void add(int number, int ofCents) {
            if (count < MAX_BILLS) {
                numbers[count] = number;
                cents[count] = ofCents;
                count++;
            }
        }
    }

    /** All credit notes and payments that made less what is owed, one by one. */
    private static final class Journal {
        // Each takes the last cent of an invoice, or is the only one of its call that does not, or
        // mends a wrong payment: so the calls that are promised never fill it.
        private static final int MOST = MAX_BILLS + MAX_CALLS + MAX_STRAYS;

        private final int[] numbers = new int[MOST];
        private final int[] cents = new int[MOST];
        private int count = 0;

        private void add(int number, int ofCents) {
            if (ofCents > 0 && count < MOST) {
                numbers[count] = number;
                cents[count] = ofCents;
                count++;
            }
        }

        private int takenOff(int number) {
            int sum = 0;
            for (int i = 0; i < count; i++) {
                if (numbers[i] == number) {
                    sum += cents[i];
                }
            }
            return sum;
        }
    }
}
