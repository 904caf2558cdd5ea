import java.util.ArrayList;
import java.util.Comparator;
import java.util.List;

/**
 * The document again, as slowly and as literally as can be: every invoice keeps the list of all that
 * happened to it, and each answer is found from that list.
 */
final class Model implements Target {
    private static final class Invoice {
        int seller;
        int buyer;
        int amount;
        int due;
        boolean isDisputed;
        final List<Long> less = new ArrayList<>();
        /** "assign 4", "notice 4", "register 4", "gone 4", in the order of calls. */
        final List<String> events = new ArrayList<>();
        int pooledBy = -1;
        long pooledFor;
        boolean wasPooled;

        long owed() {
            return amount - less.stream().mapToLong(Long::longValue).sum();
        }

        boolean has(String what, int factor) {
            return events.contains(what + " " + factor) && !events.contains("gone " + factor);
        }

        int firstOf(String what) {
            for (String event : events) {
                int factor = event.charAt(event.length() - 1) - '0';
                if (event.startsWith(what) && has(what, factor)) {
                    return factor;
                }
            }
            return -1;
        }

        int owner() {
            for (String what : List.of("notice", "register", "assign")) {
                if (firstOf(what) >= 0) {
                    return firstOf(what);
                }
            }
            return seller;
        }

        int freedBy() {
            return firstOf("notice") >= 0 ? firstOf("notice") : seller;
        }
    }

    private static final class Wrong {
        Invoice invoice;
        int party;
        long cents;
        boolean isMended;
    }

    private final List<Invoice> invoices = new ArrayList<>();
    private final List<Wrong> wrongs = new ArrayList<>();
    private final long[] purses = new long[7];
    private final long[] buyers = new long[5];
    private final int[] rates = {80, 80, 80};
    private final int[] shares = {100, 100, 100};
    private final int[] interests = {3, 3, 3};
    private final int[][] limits = new int[3][5];
    private final long[][] drawn = new long[3][4];
    private final boolean[] failed = new boolean[4];
    private int today;
    private long everIn;
    private long bad;

    @Override
    public long call(int kind, int a, int b, int c, int d) {
        switch (kind) {
            case INVOICE: return invoice(a, b, c, d);
            case CREDIT: return credit(a, b);
            case DISPUTE: return dispute(a, b > 0);
            case ASSIGN: return assign(a, b, c > 0);
            case NOTICE: return addOnce(a, b, "notice");
            case REGISTER: return addOnce(a, b, "register");
            case GIVE_BACK: return giveBack(a, b);
            case INVOICE_IS: return invoiceIs(a, b);
            case OWED_ANEW: return at(a).owed();
            case PAY: return pay(a, b, c);
            case LUMP: return lump(a, b, c);
            case MEND: return mend();
            case PURSE: within(a, 0, 6); return purses[a];
            case BUYER: within(a, 0, 4); return buyers[a];
            case BALANCES: return 1;
            case FACTOR: return factor(a, b, c, d);
            case LIMIT: return limit(a, b, c);
            case BASE: within(a, 4, 6); within(b, 0, 3); return base(a, b);
            case DRAWN: within(a, 4, 6); within(b, 0, 3); return drawn[a - 4][b];
            case DRAW: return draw(a, b, c);
            case RECOURSE: return recourse(a);
            case FAIL: return fail(a);
            case PASS: return pass(a);
            case POOL: return pool(a);
            case LOOK: return look();
            default: return financed();
        }
    }

    private static void within(int value, int least, int most) {
        if (value < least || value > most) {
            throw new IndexOutOfBoundsException();
        }
    }

    private static void inRange(long value, long least, long most) {
        if (value < least || value > most) {
            throw new IllegalArgumentException();
        }
    }

    private static void refuseIf(boolean isRefused) {
        if (isRefused) {
            throw new IllegalStateException();
        }
    }

    private Invoice at(int number) {
        within(number, 0, invoices.size() - 1);
        return invoices.get(number);
    }

    private long invoice(int seller, int buyer, int amount, int days) {
        within(seller, 0, 3);
        within(buyer, 0, 4);
        inRange(amount, 1, 1000000);
        inRange(days, 0, 300);
        refuseIf(invoices.size() == 40 || failed[seller]);
        Invoice invoice = new Invoice();
        invoice.seller = seller;
        invoice.buyer = buyer;
        invoice.amount = amount;
        invoice.due = today + days;
        invoices.add(invoice);
        return invoices.size() - 1;
    }

    private long credit(int number, int amount) {
        Invoice invoice = at(number);
        inRange(amount, 1, invoice.owed());
        invoice.less.add((long) amount);
        return invoice.owed();
    }

    private long dispute(int number, boolean isDisputed) {
        Invoice invoice = at(number);
        boolean was = invoice.isDisputed;
        invoice.isDisputed = isDisputed;
        return was ? 1 : 0;
    }

    private long assign(int number, int factor, boolean isNotice) {
        Invoice invoice = at(number);
        within(factor, 4, 6);
        refuseIf(invoice.events.contains("assign " + factor));
        refuseIf(invoice.owed() == 0 || failed[invoice.seller]);
        invoice.events.add("assign " + factor);
        if (isNotice) {
            invoice.events.add("notice " + factor);
        }
        return invoice.owner();
    }

    private long addOnce(int number, int factor, String what) {
        Invoice invoice = at(number);
        within(factor, 4, 6);
        refuseIf(!invoice.has("assign", factor) || invoice.has(what, factor));
        invoice.events.add(what + " " + factor);
        return invoice.owner();
    }

    private long giveBack(int number, int factor) {
        Invoice invoice = at(number);
        within(factor, 4, 6);
        refuseIf(!invoice.has("assign", factor));
        invoice.events.add("gone " + factor);
        return invoice.owner();
    }

    private long invoiceIs(int number, int what) {
        Invoice invoice = at(number);
        inRange(what, 0, 5);
        return new long[] {invoice.owed(), invoice.owner(), invoice.freedBy(), invoice.due,
            invoice.isDisputed ? 1 : 0, countsFor(invoice)}[what];
    }

    private boolean isOld(Invoice invoice) {
        return today > invoice.due + 60;
    }

    private int countsFor(Invoice invoice) {
        int owner = invoice.owner();
        if (owner < 4 || invoice.owed() < 1 || invoice.isDisputed || isOld(invoice)) {
            return -1;
        }
        long all = 0;
        long young = 0;
        for (Invoice other : invoices) {
            if (other.buyer == invoice.buyer && other.owner() == owner) {
                all += other.owed();
                young += isOld(other) ? 0 : other.owed();
            }
        }
        return young >= all - young ? owner : -1;
    }

    private long pay(int number, int party, int amount) {
        Invoice invoice = at(number);
        within(party, 0, 6);
        inRange(amount, 1, 1000000);
        refuseIf(invoice.owed() == 0);
        refuseIf(invoice.freedBy() != party && wrongs.size() == 30);
        buyers[invoice.buyer] -= amount;
        purses[party] += amount;
        match(invoice, party, Math.min(amount, invoice.owed()));
        return invoice.owed();
    }

    private long lump(int buyer, int party, int amount) {
        within(buyer, 0, 4);
        within(party, 0, 6);
        inRange(amount, 1, 1000000);
        List<Invoice> open = new ArrayList<>();
        for (Invoice invoice : invoices) {
            if (invoice.buyer == buyer && invoice.owed() > 0) {
                open.add(invoice);
            }
        }
        for (Invoice invoice : open) {
            if (invoice.owed() == amount) {
                open = List.of(invoice);
                break;
            }
        }
        if (open.size() > 1) {
            // a stable sort: what is due on one day stays by numbers
            open.sort(Comparator.comparingInt((Invoice invoice) -> invoice.due));
        }
        List<Invoice> matched = new ArrayList<>();
        long covered = 0;
        long wrong = 0;
        for (Invoice invoice : open) {
            if (covered < amount) {
                matched.add(invoice);
                covered += invoice.owed();
                wrong += invoice.freedBy() == party ? 0 : 1;
            }
        }
        refuseIf(wrongs.size() + wrong > 30);
        buyers[buyer] -= amount;
        purses[party] += amount;
        long left = amount;
        for (Invoice invoice : matched) {
            long cents = Math.min(left, invoice.owed());
            left -= cents;
            match(invoice, party, cents);
        }
        return matched.size();
    }

    private void match(Invoice invoice, int party, long cents) {
        if (invoice.freedBy() == party) {
            invoice.less.add(cents);
            purses[party] -= cents;
            purses[invoice.owner()] += cents;
            payDown(invoice, cents);
            return;
        }
        Wrong wrong = new Wrong();
        wrong.invoice = invoice;
        wrong.party = party;
        wrong.cents = cents;
        wrongs.add(wrong);
    }

    private void payDown(Invoice invoice, long cents) {
        int owner = invoice.owner();
        if (owner < 4) {
            return;
        }
        long more = cents - drawn[owner - 4][invoice.seller];
        if (more <= 0) {
            drawn[owner - 4][invoice.seller] -= cents;
        } else {
            drawn[owner - 4][invoice.seller] = 0;
            purses[owner] -= more;
            purses[invoice.seller] += more;
        }
    }

    private long mend() {
        long mended = 0;
        for (Wrong wrong : wrongs) {
            if (wrong.isMended || purses[wrong.party] < wrong.cents) {
                continue;
            }
            wrong.isMended = true;
            mended++;
            Invoice invoice = wrong.invoice;
            long matched = Math.min(invoice.owed(), wrong.cents);
            invoice.less.add(matched);
            purses[wrong.party] -= wrong.cents;
            purses[invoice.owner()] += matched;
            buyers[invoice.buyer] += wrong.cents - matched;
            payDown(invoice, matched);
        }
        return mended;
    }

    private long factor(int factor, int rate, int share, int interest) {
        within(factor, 4, 6);
        inRange(rate, 0, 100);
        inRange(share, 1, 100);
        inRange(interest, 0, 9);
        rates[factor - 4] = rate;
        shares[factor - 4] = share;
        interests[factor - 4] = interest;
        return 0;
    }

    private long limit(int factor, int buyer, int cents) {
        within(factor, 4, 6);
        within(buyer, 0, 4);
        inRange(cents, 0, 100000000);
        limits[factor - 4][buyer] = cents;
        return 0;
    }

    private long base(int factor, int seller) {
        long[] counted = new long[5];
        long all = 0;
        for (Invoice invoice : invoices) {
            if (invoice.seller == seller && countsFor(invoice) == factor) {
                counted[invoice.buyer] += invoice.owed();
                all += invoice.owed();
            }
        }
        long sum = 0;
        for (int buyer = 0; buyer < 5; buyer++) {
            long most = Math.min(limits[factor - 4][buyer], all * shares[factor - 4] / 100);
            sum += Math.min(most, counted[buyer]);
        }
        return sum * rates[factor - 4] / 100;
    }

    private long draw(int factor, int seller, int amount) {
        within(factor, 4, 6);
        within(seller, 0, 3);
        inRange(amount, 1, Math.max(0, base(factor, seller) - drawn[factor - 4][seller]));
        refuseIf(failed[seller]);
        purses[factor] -= amount;
        purses[seller] += amount;
        drawn[factor - 4][seller] += amount;
        return drawn[factor - 4][seller];
    }

    private long recourse(int number) {
        Invoice invoice = at(number);
        int factor = invoice.owner();
        refuseIf(factor < 4);
        refuseIf(!invoice.isDisputed && today - 90 <= invoice.due);
        invoice.events.add("gone " + factor);
        int seller = invoice.seller;
        long above = Math.max(0, drawn[factor - 4][seller] - base(factor, seller));
        long paid = Math.min(above, Math.max(0, purses[seller]));
        purses[seller] -= paid;
        purses[factor] += paid;
        drawn[factor - 4][seller] -= paid;
        return paid;
    }

    private long fail(int seller) {
        within(seller, 0, 3);
        refuseIf(failed[seller]);
        failed[seller] = true;
        long gone = 0;
        for (Invoice invoice : invoices) {
            for (int factor = 4; factor < 7; factor++) {
                if (invoice.seller == seller && invoice.has("assign", factor)
                        && !invoice.has("notice", factor) && !invoice.has("register", factor)) {
                    invoice.events.add("gone " + factor);
                    gone++;
                }
            }
        }
        return gone;
    }

    private long pass(int days) {
        inRange(days, 1, 100);
        refuseIf(today + days > 3000);
        for (int day = 0; day < days; day++) {
            for (int factor = 0; factor < 3; factor++) {
                for (int seller = 0; seller < 4; seller++) {
                    drawn[factor][seller] += drawn[factor][seller] * interests[factor] / 10000;
                }
            }
        }
        today += days;
        return today;
    }

    private long pool(int number) {
        Invoice invoice = at(number);
        refuseIf(countsFor(invoice) < 0 || invoice.wasPooled);
        invoice.wasPooled = true;
        invoice.pooledBy = countsFor(invoice);
        invoice.pooledFor = invoice.owed();
        everIn += invoice.pooledFor;
        return invoices.stream().filter(other -> other.pooledBy >= 0).count();
    }

    private long look() {
        long out = 0;
        for (Invoice invoice : invoices) {
            if (invoice.pooledBy >= 0 && countsFor(invoice) != invoice.pooledBy) {
                invoice.pooledBy = -1;
                out++;
                if (invoice.owed() > 0 && (isOld(invoice) || invoice.isDisputed)) {
                    bad += invoice.pooledFor;
                }
            }
        }
        return out;
    }

    private long financed() {
        long worth = 0;
        for (Invoice invoice : invoices) {
            worth += invoice.pooledBy >= 0 ? invoice.owed() : 0;
        }
        return 10 * bad > everIn ? 0 : worth * 90 / 100;
    }
}
