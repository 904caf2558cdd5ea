/** One part for each promise of the document: ordinary inputs, edges, wrong inputs. */
public final class PromiseTest {
    private static final Class<IndexOutOfBoundsException> INDEX = IndexOutOfBoundsException.class;
    private static final Class<IllegalArgumentException> ARGUMENT = IllegalArgumentException.class;
    private static final Class<IllegalStateException> STATE = IllegalStateException.class;
    private static final int[] STRANGE = {-1, Integer.MIN_VALUE, Integer.MAX_VALUE};

    private PromiseTest() {
    }

    public static void main(String[] args) {
        aNewObject();
        invoice();
        credit();
        dispute();
        assign();
        notice();
        register();
        giveBack();
        invoiceIs();
        countsByAge();
        countsByHalf();
        owedAnew();
        pay();
        payTooOftenWrong();
        lump();
        lumpTooOftenWrong();
        mend();
        mendToTheOwnerOfThen();
        purse();
        buyer();
        balances();
        factor();
        limit();
        base();
        drawn();
        draw();
        recourse();
        fail();
        pass();
        pool();
        look();
        financed();
        fullHouse();
        Check.end();
    }

    private static void is(String what, long got, long want) {
        Check.due(what, got, want);
    }

    private static void is(String what, boolean got, boolean want) {
        Check.due(what, got, want);
    }

    /** A house with limits that do not bind. */
    private static FactorHouse wide() {
        FactorHouse x = new FactorHouse();
        for (int factor = 4; factor < 7; factor++) {
            for (int buyer = 0; buyer < 5; buyer++) {
                x.limit(factor, buyer, 100000000);
            }
        }
        return x;
    }

    /** An invoice that was assigned to a factor at once, with a notice or silently. */
    private static int assigned(FactorHouse x, int[] invoice, int factor, boolean isNotice) {
        int number = x.invoice(invoice[0], invoice[1], invoice[2], invoice[3]);
        x.assign(number, factor, isNotice);
        return number;
    }

    private static int[] of(int seller, int buyer, int amount, int days) {
        return new int[] {seller, buyer, amount, days};
    }

    private static void passAll(FactorHouse x, int days) {
        for (int left = days; left > 0; left -= 100) {
            x.pass(Math.min(left, 100));
        }
    }

    // Promise 1
    private static void aNewObject() {
        FactorHouse x = new FactorHouse();
        is("NONE", FactorHouse.NONE, -1);
        Check.refuses(x, INDEX, "new: invoiceIs(0, 0)", () -> x.invoiceIs(0, 0));
        for (int party = 0; party < 7; party++) {
            is("new: purse", x.purse(party), 0);
        }
        for (int buyer = 0; buyer < 5; buyer++) {
            is("new: buyer", x.buyer(buyer), 0);
        }
        is("new: financed", x.financed(), 0);
        is("new: look", x.look(), 0);
        is("new: mend", x.mend(), 0);
        is("new: first number", x.invoice(0, 0, 100, 7), 0);
        is("new: the day is 0", x.invoiceIs(0, 3), 7);
        is("new: pass", x.pass(1), 1);
        FactorHouse other = new FactorHouse();
        is("a second object has its own invoices", other.invoice(1, 1, 5, 0), 0);
        is("a second object has its own day", other.invoiceIs(0, 3), 0);
    }

    // Promise 2
    private static void invoice() {
        FactorHouse x = new FactorHouse();
        x.fail(3);
        for (int bad : new int[] {-1, 4, 7, Integer.MIN_VALUE, Integer.MAX_VALUE}) {
            Check.refuses(x, INDEX, "invoice of seller " + bad, () -> x.invoice(bad, 0, 1, 0));
        }
        for (int bad : new int[] {-1, 5, Integer.MIN_VALUE, Integer.MAX_VALUE}) {
            Check.refuses(x, INDEX, "invoice of buyer " + bad, () -> x.invoice(0, bad, 0, 0));
        }
        for (int bad : new int[] {0, -1, 1000001, Integer.MIN_VALUE, Integer.MAX_VALUE}) {
            Check.refuses(x, ARGUMENT, "invoice of amount " + bad, () -> x.invoice(3, 0, bad, 0));
        }
        for (int bad : new int[] {-1, 301, Integer.MIN_VALUE, Integer.MAX_VALUE}) {
            Check.refuses(x, ARGUMENT, "invoice in days " + bad, () -> x.invoice(0, 0, 1, bad));
        }
        Check.refuses(x, STATE, "invoice of one who failed", () -> x.invoice(3, 0, 1, 0));
        x.pass(10);
        is("invoice 0", x.invoice(0, 0, 1, 0), 0);
        is("invoice 1", x.invoice(2, 4, 1000000, 300), 1);
        is("its owner", x.invoiceIs(1, 1), 2);
        is("its amount", x.invoiceIs(1, 0), 1000000);
        is("its day due", x.invoiceIs(1, 3), 310);
        is("due today", x.invoiceIs(0, 3), 10);
        is("not disputed", x.invoiceIs(1, 4), 0);
        for (int number = 2; number < 40; number++) {
            is("invoice", x.invoice(number % 3, number % 5, 1, 0), number);
        }
        Check.refuses(x, STATE, "a 41st invoice", () -> x.invoice(0, 0, 1, 0));
        Check.refuses(x, ARGUMENT, "a 41st invoice of 0", () -> x.invoice(0, 0, 0, 0));
        Check.refuses(x, INDEX, "a 41st invoice of no one", () -> x.invoice(0, 5, 0, 0));
        Check.refuses(x, INDEX, "what the 41st is", () -> x.invoiceIs(40, 0));
    }

    // Promise 3
    private static void credit() {
        FactorHouse x = wide();
        assigned(x, of(0, 0, 100, 0), 4, true);
        x.draw(4, 0, 80);
        Check.refuses(x, INDEX, "credit(1, 1)", () -> x.credit(1, 1));
        Check.refuses(x, INDEX, "credit(-1, 0)", () -> x.credit(-1, 0));
        Check.refuses(x, ARGUMENT, "credit(0, 0)", () -> x.credit(0, 0));
        Check.refuses(x, ARGUMENT, "credit(0, 101)", () -> x.credit(0, 101));
        for (int bad : STRANGE) {
            Check.refuses(x, ARGUMENT, "credit(0, " + bad + ")", () -> x.credit(0, bad));
        }
        is("credit 40 of 100", x.credit(0, 40), 60);
        is("what is drawn stays by a credit note", x.drawn(4, 0), 80);
        is("the purse of the factor stays", x.purse(4), -80);
        is("the purse of the buyer stays", x.buyer(0), 0);
        is("the base is less", x.base(4, 0), 48);
        Check.refuses(x, ARGUMENT, "credit(0, 61)", () -> x.credit(0, 61));
        is("credit the rest", x.credit(0, 60), 0);
        Check.refuses(x, ARGUMENT, "credit when nothing is owed", () -> x.credit(0, 1));
    }

    // Promise 4
    private static void dispute() {
        FactorHouse x = wide();
        assigned(x, of(0, 0, 100, 0), 4, true);
        Check.refuses(x, INDEX, "dispute(1, true)", () -> x.dispute(1, true));
        Check.refuses(x, INDEX, "dispute(-1, true)", () -> x.dispute(-1, true));
        is("settling what is not disputed", x.dispute(0, false), false);
        is("a first dispute", x.dispute(0, true), false);
        is("a second dispute", x.dispute(0, true), true);
        is("it is disputed", x.invoiceIs(0, 4), 1);
        is("it counts for none", x.invoiceIs(0, 5), -1);
        is("it is owed", x.invoiceIs(0, 0), 100);
        is("an end of the dispute", x.dispute(0, false), true);
        is("it is not disputed", x.invoiceIs(0, 4), 0);
        is("it counts again", x.invoiceIs(0, 5), 4);
        x.pay(0, 4, 100);
        is("a dispute of what is paid", x.dispute(0, true), false);
        is("it is disputed, too", x.invoiceIs(0, 4), 1);
    }

    // Promise 5
    private static void assign() {
        FactorHouse x = new FactorHouse();
        x.invoice(0, 0, 100, 0);
        for (int bad : new int[] {3, 0, -1, 7, Integer.MIN_VALUE, Integer.MAX_VALUE}) {
            Check.refuses(x, INDEX, "assign to " + bad, () -> x.assign(0, bad, true));
        }
        Check.refuses(x, INDEX, "assign(1, 4)", () -> x.assign(1, 4, true));
        Check.refuses(x, INDEX, "assign(-1, 4)", () -> x.assign(-1, 4, true));
        is("assigned to 6 first", x.assign(0, 6, false), 6);
        is("assigned to 4 behind", x.assign(0, 4, false), 6);
        is("the buyer is free by the seller", x.invoiceIs(0, 2), 0);
        is("assigned to 5 with notice", x.assign(0, 5, true), 5);
        is("the buyer is free by 5", x.invoiceIs(0, 2), 5);
        Check.refuses(x, STATE, "assign to 4 twice", () -> x.assign(0, 4, true));
        x.giveBack(0, 4);
        Check.refuses(x, STATE, "assign to 4 again", () -> x.assign(0, 4, false));
        x.invoice(0, 0, 100, 0);
        is("with notice to 5 first", x.assign(1, 5, true), 5);
        is("with notice to 4 behind", x.assign(1, 4, true), 5);
        x.credit(1, 100);
        Check.refuses(x, STATE, "assign what is not owed", () -> x.assign(1, 6, true));
        x.invoice(1, 0, 100, 0);
        x.fail(1);
        Check.refuses(x, STATE, "assign of one who failed", () -> x.assign(2, 4, true));
        Check.refuses(x, INDEX, "assign of him to no one", () -> x.assign(2, 7, true));
        is("an assignment on another", x.invoiceIs(2, 1), 1);
    }

    // Promise 6
    private static void notice() {
        FactorHouse x = new FactorHouse();
        x.invoice(0, 0, 100, 0);
        x.assign(0, 4, false);
        x.assign(0, 5, false);
        x.register(0, 4);
        for (int bad : new int[] {3, -1, 7, Integer.MAX_VALUE}) {
            Check.refuses(x, INDEX, "notice to " + bad, () -> x.notice(0, bad));
        }
        Check.refuses(x, INDEX, "notice(1, 4)", () -> x.notice(1, 4));
        Check.refuses(x, INDEX, "notice(-1, 4)", () -> x.notice(-1, 4));
        Check.refuses(x, STATE, "notice without assignment", () -> x.notice(0, 6));
        is("a notice goes ahead of a register", x.notice(0, 5), 5);
        is("the first notice stays ahead", x.notice(0, 4), 5);
        is("the buyer is free by 5", x.invoiceIs(0, 2), 5);
        Check.refuses(x, STATE, "a second notice", () -> x.notice(0, 5));
        x.giveBack(0, 5);
        is("the next notice", x.invoiceIs(0, 2), 4);
        Check.refuses(x, STATE, "notice of what was given back", () -> x.notice(0, 5));
        x.assign(0, 6, true);
        Check.refuses(x, STATE, "notice after notice at once", () -> x.notice(0, 6));
        x.invoice(1, 0, 100, 0);
        x.assign(1, 6, false);
        x.register(1, 6);
        x.credit(1, 100);
        x.fail(1);
        is("a notice when nothing is owed and the seller failed", x.notice(1, 6), 6);
        is("it tells the buyer", x.invoiceIs(1, 2), 6);
    }

    // Promise 7
    private static void register() {
        FactorHouse x = new FactorHouse();
        x.invoice(0, 0, 100, 0);
        x.assign(0, 4, false);
        x.assign(0, 5, false);
        x.assign(0, 6, false);
        for (int bad : new int[] {3, -1, 7, Integer.MAX_VALUE}) {
            Check.refuses(x, INDEX, "register by " + bad, () -> x.register(0, bad));
        }
        Check.refuses(x, INDEX, "register(1, 4)", () -> x.register(1, 4));
        Check.refuses(x, INDEX, "register(-1, 4)", () -> x.register(-1, 4));
        is("a register goes ahead of an assignment", x.register(0, 6), 6);
        is("the first register stays ahead", x.register(0, 4), 6);
        is("a register does not tell the buyer", x.invoiceIs(0, 2), 0);
        Check.refuses(x, STATE, "a second register", () -> x.register(0, 6));
        is("a notice goes ahead", x.notice(0, 5), 5);
        is("a register behind a notice", x.register(0, 5), 5);
        is("the first register is next", x.giveBack(0, 5), 6);
        x.giveBack(0, 6);
        Check.refuses(x, STATE, "register of what was given back", () -> x.register(0, 6));
        x.invoice(0, 0, 100, 0);
        Check.refuses(x, STATE, "register without assignment", () -> x.register(1, 4));
        x.assign(1, 4, true);
        x.fail(0);
        is("a register after the seller failed", x.register(1, 4), 4);
    }

    // Promise 8
    private static void giveBack() {
        FactorHouse x = new FactorHouse();
        x.invoice(2, 0, 100, 0);
        x.assign(0, 4, false);
        x.assign(0, 5, true);
        for (int bad : new int[] {3, -1, 7, Integer.MAX_VALUE}) {
            Check.refuses(x, INDEX, "giveBack by " + bad, () -> x.giveBack(0, bad));
        }
        Check.refuses(x, INDEX, "giveBack(1, 4)", () -> x.giveBack(1, 4));
        Check.refuses(x, INDEX, "giveBack(-1, 4)", () -> x.giveBack(-1, 4));
        Check.refuses(x, STATE, "giveBack without assignment", () -> x.giveBack(0, 6));
        is("back from 5", x.giveBack(0, 5), 4);
        is("the buyer is free by the seller again", x.invoiceIs(0, 2), 2);
        Check.refuses(x, STATE, "giveBack twice", () -> x.giveBack(0, 5));
        is("back from 4", x.giveBack(0, 4), 2);
        is("6 is new", x.assign(0, 6, false), 6);
        Check.refuses(x, STATE, "assigned to 5 again", () -> x.assign(0, 5, false));
    }

    // Promise 9
    private static void invoiceIs() {
        FactorHouse x = wide();
        x.pass(3);
        assigned(x, of(1, 2, 500, 20), 5, false);
        is("what is owed", x.invoiceIs(0, 0), 500);
        is("its owner", x.invoiceIs(0, 1), 5);
        is("by whom the buyer is free", x.invoiceIs(0, 2), 1);
        is("its day due", x.invoiceIs(0, 3), 23);
        is("not disputed", x.invoiceIs(0, 4), 0);
        is("the factor for whom it counts", x.invoiceIs(0, 5), 5);
        for (int bad : new int[] {-1, 6, Integer.MIN_VALUE, Integer.MAX_VALUE}) {
            Check.refuses(x, ARGUMENT, "invoiceIs(0, " + bad + ")", () -> x.invoiceIs(0, bad));
        }
        Check.refuses(x, INDEX, "invoiceIs(1, 6)", () -> x.invoiceIs(1, 6));
        Check.refuses(x, INDEX, "invoiceIs(-1, 0)", () -> x.invoiceIs(-1, 0));
        x.invoice(1, 2, 500, 20);
        is("without a factor it counts for none", x.invoiceIs(1, 5), -1);
        x.credit(0, 500);
        is("when nothing is owed it counts for none", x.invoiceIs(0, 5), -1);
        is("and has its owner still", x.invoiceIs(0, 1), 5);
    }

    private static void countsByAge() {
        FactorHouse x = wide();
        assigned(x, of(0, 0, 100, 5), 4, true);
        x.pass(65);
        is("60 days behind is not old", x.invoiceIs(0, 5), 4);
        x.pass(1);
        is("61 days behind is old", x.invoiceIs(0, 5), -1);
    }

    private static void countsByHalf() {
        FactorHouse x = wide();
        assigned(x, of(0, 0, 100, 0), 4, true);
        assigned(x, of(1, 0, 60, 300), 4, true);
        assigned(x, of(0, 0, 40, 300), 4, true);
        assigned(x, of(0, 1, 40, 300), 4, true);
        assigned(x, of(0, 0, 500, 300), 5, true);
        x.pass(61);
        is("just a half is old", x.invoiceIs(1, 5), 4);
        x.dispute(2, true);
        is("disputed ones are in all that is owed", x.invoiceIs(1, 5), 4);
        x.dispute(0, true);
        is("an old one that is disputed is old still", x.invoiceIs(1, 5), 4);
        x.credit(1, 1);
        is("a cent above the half is old", x.invoiceIs(1, 5), -1);
        is("another buyer has his own half", x.invoiceIs(3, 5), 4);
        is("another factor has his own half", x.invoiceIs(4, 5), 5);
        x.credit(0, 1);
        is("just a half again", x.invoiceIs(1, 5), 4);
        is("the old one does not count", x.invoiceIs(0, 5), -1);
        x.giveBack(2, 4);
        is("one given back is no more in all", x.invoiceIs(1, 5), -1);
    }

    // Promise 10
    private static void owedAnew() {
        FactorHouse x = new FactorHouse();
        x.invoice(0, 0, 1000, 0);
        x.invoice(0, 1, 1000, 0);
        Check.refuses(x, INDEX, "owedAnew(2)", () -> x.owedAnew(2));
        Check.refuses(x, INDEX, "owedAnew(-1)", () -> x.owedAnew(-1));
        is("all of it", x.owedAnew(0), 1000);
        x.credit(0, 100);
        is("without a credit note", x.owedAnew(0), 900);
        x.pay(0, 0, 200);
        is("without a payment", x.owedAnew(0), 700);
        x.pay(0, 5, 300);
        is("a wrong payment is none", x.owedAnew(0), 700);
        x.mend();
        is("one that is mended is one", x.owedAnew(0), 400);
        x.lump(0, 0, 150);
        is("without a lump sum", x.owedAnew(0), 250);
        x.pay(0, 0, 1000);
        is("never below 0", x.owedAnew(0), 0);
        is("the other one stays", x.owedAnew(1), 1000);
        for (int i = 0; i < 450; i++) {
            x.pay(1, 0, 1);
        }
        is("450 payments, one by one", x.owedAnew(1), 550);
    }

    // Promise 11
    private static void pay() {
        FactorHouse x = wide();
        x.invoice(0, 0, 1000, 0);
        for (int bad : new int[] {-1, 7, Integer.MIN_VALUE, Integer.MAX_VALUE}) {
            Check.refuses(x, INDEX, "pay to " + bad, () -> x.pay(0, bad, 0));
            Check.refuses(x, INDEX, "pay for " + bad, () -> x.pay(bad, 0, 0));
        }
        for (int bad : new int[] {0, -1, 1000001, Integer.MIN_VALUE, Integer.MAX_VALUE}) {
            Check.refuses(x, ARGUMENT, "pay " + bad, () -> x.pay(0, 0, bad));
        }
        is("to the seller", x.pay(0, 0, 100), 900);
        is("the seller has it", x.purse(0), 100);
        is("the buyer has it no more", x.buyer(0), -100);
        x.assign(0, 4, false);
        x.draw(4, 0, 300);
        is("to the seller for a silent factor", x.pay(0, 0, 200), 700);
        is("the seller hands it on", x.purse(0), 400);
        is("the factor has it", x.purse(4), -100);
        is("less is drawn", x.drawn(4, 0), 100);
        is("to a silent factor is wrong", x.pay(0, 4, 50), 700);
        is("he has it all the same", x.purse(4), -50);
        is("nothing less is drawn by that", x.drawn(4, 0), 100);
        x.notice(0, 4);
        is("to the factor who is told", x.pay(0, 4, 150), 550);
        is("nothing is drawn", x.drawn(4, 0), 0);
        is("what is more goes on to the seller", x.purse(0), 450);
        is("the factor keeps what was drawn", x.purse(4), 50);
        is("to the seller is wrong now", x.pay(0, 0, 60), 550);
        is("the seller has it all the same", x.purse(0), 510);
        is("more than is owed", x.pay(0, 4, 1000000), 0);
        is("what is not matched stays with the party", x.purse(4), 50 + 1000000 - 550);
        is("what is matched goes on", x.purse(0), 510 + 550);
        Check.refuses(x, STATE, "pay when nothing is owed", () -> x.pay(0, 4, 1));
        Check.refuses(x, ARGUMENT, "pay 0 when nothing is owed", () -> x.pay(0, 4, 0));
        x.invoice(1, 3, 10, 0);
        x.invoice(1, 3, 30, 0);
        x.pay(1, 1, 30);
        is("what is not matched goes to no other invoice", x.invoiceIs(2, 0), 30);
    }

    private static void payTooOftenWrong() {
        FactorHouse x = new FactorHouse();
        x.invoice(0, 0, 1000, 0);
        for (int i = 0; i < 30; i++) {
            x.pay(0, 1, 1);
        }
        Check.refuses(x, STATE, "a 31st wrong payment", () -> x.pay(0, 1, 1));
        Check.refuses(x, ARGUMENT, "a 31st wrong payment of 0", () -> x.pay(0, 1, 0));
        is("30 are mended", x.mend(), 30);
        Check.refuses(x, STATE, "a wrong payment behind 30 mended ones", () -> x.pay(0, 1, 1));
        is("a right one goes on", x.pay(0, 0, 1), 969);
    }

    // Promise 12
    private static void lump() {
        FactorHouse x = new FactorHouse();
        for (int bad : new int[] {-1, 5, Integer.MIN_VALUE, Integer.MAX_VALUE}) {
            Check.refuses(x, INDEX, "lump of buyer " + bad, () -> x.lump(bad, 0, 0));
        }
        for (int bad : new int[] {-1, 7, Integer.MIN_VALUE, Integer.MAX_VALUE}) {
            Check.refuses(x, INDEX, "lump to " + bad, () -> x.lump(0, bad, 0));
        }
        for (int bad : new int[] {0, -1, 1000001, Integer.MIN_VALUE, Integer.MAX_VALUE}) {
            Check.refuses(x, ARGUMENT, "lump of " + bad, () -> x.lump(0, 0, bad));
        }
        is("without invoices", x.lump(0, 0, 5), 0);
        is("the party has it all the same", x.purse(0), 5);
        is("the buyer has it no more", x.buyer(0), -5);
        x.invoice(0, 0, 50, 9);
        x.invoice(0, 1, 70, 0);
        x.invoice(0, 0, 70, 9);
        x.invoice(0, 0, 30, 3);
        x.invoice(0, 0, 70, 1);
        is("just so much is owed by 2 and by 4", x.lump(0, 0, 70), 1);
        is("the lowest such one is 2", x.invoiceIs(2, 0), 0);
        is("4 stays", x.invoiceIs(4, 0), 70);
        is("by the days due", x.lump(0, 0, 90), 2);
        is("4 is paid", x.invoiceIs(4, 0), 0);
        is("3 is paid in part", x.invoiceIs(3, 0), 10);
        x.invoice(0, 0, 40, 3);
        is("by numbers on one day", x.lump(0, 0, 25), 2);
        is("3 before 5", x.invoiceIs(3, 0), 0);
        is("5 behind 3", x.invoiceIs(5, 0), 25);
        is("to 1 wrongly", x.lump(0, 1, 100), 2);
        is("5 stays by that", x.invoiceIs(5, 0), 25);
        is("0 stays by that", x.invoiceIs(0, 0), 50);
        is("mended: 25 and 50", x.mend(), 2);
        is("25 over stay with 1", x.purse(1), 25);
        is("all is paid", x.lump(0, 0, 1), 0);
        is("another buyer's stays", x.invoiceIs(1, 0), 70);
        x.invoice(0, 3, 20, 0);
        x.invoice(1, 3, 20, 1);
        is("right for one and wrong for the other", x.lump(3, 1, 40), 2);
        is("wrong for 6", x.invoiceIs(6, 0), 20);
        is("right for 7", x.invoiceIs(7, 0), 0);
        FactorHouse y = new FactorHouse();
        y.invoice(0, 0, 5, 9);
        y.invoice(0, 0, 7, 0);
        is("just so much is owed by the first one", y.lump(0, 0, 5), 1);
        is("the first one is paid", y.invoiceIs(0, 0), 0);
        is("the one due before it is not", y.invoiceIs(1, 0), 7);
    }

    private static void lumpTooOftenWrong() {
        FactorHouse x = new FactorHouse();
        for (int i = 0; i < 31; i++) {
            x.invoice(0, 0, 2, 0);
        }
        Check.refuses(x, STATE, "31 wrong ones at once", () -> x.lump(0, 1, 61));
        is("30 wrong ones at once", x.lump(0, 1, 60), 30);
        Check.refuses(x, STATE, "one more", () -> x.lump(0, 1, 1));
        Check.refuses(x, STATE, "just so much is owed, wrongly", () -> x.lump(0, 1, 2));
        Check.refuses(x, ARGUMENT, "0 more", () -> x.lump(0, 1, 0));
        is("rightly", x.lump(0, 0, 62), 31);
        is("when nothing is owed none is wrong", x.lump(0, 1, 9), 0);
    }

    // Promise 13
    private static void mend() {
        FactorHouse x = wide();
        x.invoice(0, 0, 100, 0);
        x.pay(0, 1, 30);
        x.pay(0, 2, 90);
        is("two are mended", x.mend(), 2);
        is("no more is owed", x.invoiceIs(0, 0), 0);
        is("all of it to the owner", x.purse(0), 100);
        is("what is left to the buyer", x.buyer(0), -100);
        is("1 gave it", x.purse(1), 0);
        is("2 gave it", x.purse(2), 0);
        is("none twice", x.mend(), 0);
        x.lump(0, 1, 500);
        is("none twice, also when the purse has as much again", x.mend(), 0);
        x.invoice(3, 1, 1000, 0);
        x.assign(1, 4, true);
        x.pay(1, 5, 40);
        assigned(x, of(2, 4, 1000, 0), 5, true);
        x.draw(5, 2, 20);
        is("the purse has 20 of 40", x.purse(5), 20);
        is("so it waits", x.mend(), 0);
        x.pay(2, 5, 20);
        is("the purse has as much", x.purse(5), 40);
        is("so it is mended", x.mend(), 1);
        is("it came to 4 and went on", x.purse(3), 40);
        is("4 has none of it", x.purse(4), 0);
        is("it is less owed", x.invoiceIs(1, 0), 960);
        x.draw(4, 3, 25);
        x.pay(1, 6, 35);
        is("mended for a drawn one", x.mend(), 1);
        is("what was drawn is paid", x.drawn(4, 3), 0);
        is("the rest goes to the seller", x.purse(3), 75);
        is("the factor has back what was drawn", x.purse(4), 0);
    }

    private static void mendToTheOwnerOfThen() {
        FactorHouse x = wide();
        x.invoice(0, 0, 1000, 0);
        x.invoice(0, 1, 1000, 0);
        x.pay(0, 4, 60);
        x.pay(1, 4, 10);
        x.assign(0, 4, false);
        x.draw(4, 0, 65);
        x.assign(0, 5, true);
        x.assign(1, 5, true);
        is("60 are too much, 10 too: 4 has 5", x.mend(), 0);
        x.lump(4, 4, 10);
        is("the second one goes ahead of the first", x.mend(), 1);
        is("4 has 5 again", x.purse(4), 5);
        x.lump(4, 4, 55);
        is("now the first one, to the owner of then", x.mend(), 1);
        is("what was drawn from 4 stays", x.drawn(4, 0), 65);
        is("5 handed it on, as nothing was drawn", x.purse(5), 0);
        is("the seller has all", x.purse(0), 65 + 10 + 60);
        is("940 are owed", x.owedAnew(0), 940);
    }

    // Promise 14
    private static void purse() {
        FactorHouse x = new FactorHouse();
        for (int bad : new int[] {-1, 7, Integer.MIN_VALUE, Integer.MAX_VALUE}) {
            Check.refuses(x, INDEX, "purse(" + bad + ")", () -> x.purse(bad));
        }
        for (int party = 0; party < 7; party++) {
            x.lump(0, party, 10 + party);
        }
        for (int party = 0; party < 7; party++) {
            is("purse(" + party + ")", x.purse(party), 10 + party);
        }
    }

    // Promise 15
    private static void buyer() {
        FactorHouse x = new FactorHouse();
        for (int bad : new int[] {-1, 5, Integer.MIN_VALUE, Integer.MAX_VALUE}) {
            Check.refuses(x, INDEX, "buyer(" + bad + ")", () -> x.buyer(bad));
        }
        for (int buyer = 0; buyer < 5; buyer++) {
            x.lump(buyer, 0, 10 + buyer);
        }
        for (int buyer = 0; buyer < 5; buyer++) {
            is("buyer(" + buyer + ")", x.buyer(buyer), -10 - buyer);
        }
        for (int i = 0; i < 400; i++) {
            x.lump(0, 6, 1000000);
        }
        is("400 times the most", x.buyer(0), -400000010L);
    }

    // Promise 16
    private static void balances() {
        FactorHouse x = wide();
        is("at first", x.balances(), true);
        assigned(x, of(0, 0, 1000, 0), 4, true);
        x.draw(4, 0, 700);
        is("after a draw", x.balances(), true);
        x.pay(0, 2, 300);
        is("after a wrong payment", x.balances(), true);
        x.mend();
        is("after it is mended", x.balances(), true);
        x.pay(0, 4, 800);
        is("after too much is paid", x.balances(), true);
        x.pass(50);
        is("after interest", x.balances(), true);
        is("with money about", x.purse(0) != 0 && x.purse(4) != 0 && x.buyer(0) != 0, true);
    }

    // Promise 17
    private static void factor() {
        FactorHouse x = wide();
        for (int bad : new int[] {3, -1, 7, Integer.MIN_VALUE, Integer.MAX_VALUE}) {
            Check.refuses(x, INDEX, "factor(" + bad + ")", () -> x.factor(bad, 101, 0, 10));
        }
        for (int bad : new int[] {-1, 101, Integer.MIN_VALUE, Integer.MAX_VALUE}) {
            Check.refuses(x, ARGUMENT, "rate " + bad, () -> x.factor(4, bad, 1, 0));
        }
        for (int bad : new int[] {0, -1, 101, Integer.MIN_VALUE, Integer.MAX_VALUE}) {
            Check.refuses(x, ARGUMENT, "share " + bad, () -> x.factor(4, 0, bad, 0));
        }
        for (int bad : new int[] {-1, 10, Integer.MIN_VALUE, Integer.MAX_VALUE}) {
            Check.refuses(x, ARGUMENT, "interest " + bad, () -> x.factor(4, 0, 1, bad));
        }
        assigned(x, of(0, 0, 10000, 0), 4, true);
        assigned(x, of(1, 1, 10000, 0), 5, true);
        is("a rate of 80 at first", x.base(4, 0), 8000);
        x.factor(4, 100, 100, 9);
        is("a rate of 100", x.base(4, 0), 10000);
        is("the other one's stays", x.base(5, 1), 8000);
        x.factor(4, 0, 100, 9);
        is("a rate of 0", x.base(4, 0), 0);
        x.factor(4, 100, 1, 9);
        is("a share of 1", x.base(4, 0), 100);
        x.factor(4, 100, 100, 9);
        x.draw(4, 0, 10000);
        x.draw(5, 1, 8000);
        x.pass(1);
        is("an interest of 9", x.drawn(4, 0), 10009);
        is("an interest of 3 at first: 2.4", x.drawn(5, 1), 8002);
        x.factor(4, 100, 100, 0);
        x.pass(100);
        is("an interest of 0", x.drawn(4, 0), 10009);
    }

    // Promise 18
    private static void limit() {
        FactorHouse x = new FactorHouse();
        for (int bad : new int[] {3, -1, 7, Integer.MAX_VALUE}) {
            Check.refuses(x, INDEX, "limit of " + bad, () -> x.limit(bad, 0, -1));
        }
        for (int bad : new int[] {-1, 5, Integer.MAX_VALUE}) {
            Check.refuses(x, INDEX, "limit for " + bad, () -> x.limit(4, bad, -1));
        }
        for (int bad : new int[] {-1, 100000001, Integer.MIN_VALUE, Integer.MAX_VALUE}) {
            Check.refuses(x, ARGUMENT, "limit of cents " + bad, () -> x.limit(4, 0, bad));
        }
        assigned(x, of(0, 0, 1000, 0), 4, true);
        assigned(x, of(0, 1, 1000, 0), 4, true);
        assigned(x, of(1, 0, 1000, 0), 4, true);
        is("0 at first", x.base(4, 0), 0);
        x.limit(4, 0, 100);
        is("100 of 1000", x.base(4, 0), 80);
        is("for each seller by itself", x.base(4, 1), 80);
        x.limit(5, 1, 100);
        is("another factor's does nothing", x.base(4, 0), 80);
        x.limit(4, 1, 100000000);
        is("the most", x.base(4, 0), 880);
        x.limit(4, 0, 0);
        is("0 again", x.base(4, 0), 800);
    }

    // Promise 19
    private static void base() {
        FactorHouse x = wide();
        for (int bad : new int[] {3, -1, 7, Integer.MAX_VALUE}) {
            Check.refuses(x, INDEX, "base of " + bad, () -> x.base(bad, 0));
        }
        for (int bad : new int[] {4, -1, Integer.MAX_VALUE}) {
            Check.refuses(x, INDEX, "base for " + bad, () -> x.base(4, bad));
        }
        is("nothing is assigned", x.base(4, 0), 0);
        assigned(x, of(0, 0, 333, 0), 4, true);
        assigned(x, of(0, 0, 100, 0), 4, false);
        assigned(x, of(0, 1, 50, 300), 4, false);
        assigned(x, of(1, 1, 1000, 300), 4, false);
        is("483 by 80 hundredths: 386.4", x.base(4, 0), 386);
        x.limit(4, 0, 200);
        is("at most the limit: 250 by 80", x.base(4, 0), 200);
        x.factor(4, 100, 33, 0);
        is("at most 33 hundredths of 483, 159.39: 159 and 50", x.base(4, 0), 209);
        x.factor(4, 33, 33, 0);
        is("209 by 33: 68.97", x.base(4, 0), 68);
        x.dispute(0, true);
        is("150 count, by 33 49 each: 98 by 33", x.base(4, 0), 32);
        x.dispute(0, false);
        x.pass(61);
        is("all of buyer 0 is old: 16 by 33", x.base(4, 0), 5);
        is("another seller: 330 by 33", x.base(4, 1), 108);
        x.assign(2, 5, true);
        is("another owner", x.base(4, 0), 0);
        is("counts for him", x.base(5, 0), 40);
        assigned(x, of(2, 3, 199, 300), 6, true);
        x.factor(6, 100, 1, 0);
        is("a share of 1.99 is 1", x.base(6, 2), 1);
        FactorHouse most = wide();
        for (int i = 0; i < 40; i++) {
            assigned(most, of(0, 0, 1000000, 0), 6, true);
        }
        is("40 times the most", most.base(6, 0), 32000000);
    }

    // Promise 20
    private static void drawn() {
        FactorHouse x = wide();
        for (int bad : new int[] {3, -1, 7, Integer.MAX_VALUE}) {
            Check.refuses(x, INDEX, "drawn from " + bad, () -> x.drawn(bad, 0));
        }
        for (int bad : new int[] {4, -1, Integer.MAX_VALUE}) {
            Check.refuses(x, INDEX, "drawn by " + bad, () -> x.drawn(4, bad));
        }
        assigned(x, of(0, 0, 1000, 0), 4, true);
        assigned(x, of(0, 1, 1000, 0), 5, true);
        assigned(x, of(1, 1, 1000, 0), 4, true);
        x.draw(4, 0, 10);
        x.draw(5, 0, 20);
        x.draw(4, 1, 30);
        is("0 from 4", x.drawn(4, 0), 10);
        is("0 from 5", x.drawn(5, 0), 20);
        is("1 from 4", x.drawn(4, 1), 30);
        is("1 from 5", x.drawn(5, 1), 0);
        x.pay(2, 4, 12);
        is("1 from 4, less what was paid for his", x.drawn(4, 1), 18);
        is("0 from 4 stays", x.drawn(4, 0), 10);
    }

    // Promise 21
    private static void draw() {
        FactorHouse x = wide();
        assigned(x, of(0, 0, 1000, 0), 4, true);
        for (int bad : new int[] {3, -1, 7, Integer.MAX_VALUE}) {
            Check.refuses(x, INDEX, "draw from " + bad, () -> x.draw(bad, 0, 0));
        }
        for (int bad : new int[] {4, -1, Integer.MAX_VALUE}) {
            Check.refuses(x, INDEX, "draw by " + bad, () -> x.draw(4, bad, 0));
        }
        for (int bad : new int[] {0, -1, 801, Integer.MIN_VALUE, Integer.MAX_VALUE}) {
            Check.refuses(x, ARGUMENT, "draw " + bad, () -> x.draw(4, 0, bad));
        }
        is("a first one", x.draw(4, 0, 300), 300);
        is("from the factor's purse", x.purse(4), -300);
        is("to the seller's", x.purse(0), 300);
        Check.refuses(x, ARGUMENT, "501 of 500", () -> x.draw(4, 0, 501));
        is("the rest", x.draw(4, 0, 500), 800);
        Check.refuses(x, ARGUMENT, "1 of 0", () -> x.draw(4, 0, 1));
        x.credit(0, 500);
        Check.refuses(x, ARGUMENT, "1 when more is drawn than the base", () -> x.draw(4, 0, 1));
        Check.refuses(x, ARGUMENT, "0 then", () -> x.draw(4, 0, 0));
        assigned(x, of(1, 0, 1000, 0), 4, true);
        x.fail(1);
        Check.refuses(x, STATE, "1 by one who failed", () -> x.draw(4, 1, 1));
        Check.refuses(x, ARGUMENT, "801 by one who failed", () -> x.draw(4, 1, 801));
        is("he has his base all the same", x.base(4, 1), 800);
    }

    // Promise 22
    private static void recourse() {
        FactorHouse x = wide();
        assigned(x, of(0, 0, 1000, 10), 4, true);
        assigned(x, of(0, 1, 1000, 300), 4, true);
        x.invoice(0, 0, 1000, 0);
        Check.refuses(x, INDEX, "recourse(3)", () -> x.recourse(3));
        Check.refuses(x, INDEX, "recourse(-1)", () -> x.recourse(-1));
        Check.refuses(x, STATE, "recourse of a good one", () -> x.recourse(0));
        x.dispute(2, true);
        Check.refuses(x, STATE, "recourse of a seller's", () -> x.recourse(2));
        x.factor(4, 80, 100, 0);
        x.draw(4, 0, 1500);
        passAll(x, 100);
        Check.refuses(x, STATE, "90 days behind", () -> x.recourse(0));
        x.pass(1);
        is("91 days behind: 700 above the base of 800", x.recourse(0), 700);
        is("the owner is the seller", x.invoiceIs(0, 1), 0);
        is("the seller paid", x.purse(0), 800);
        is("the factor got it", x.purse(4), -800);
        is("less is drawn", x.drawn(4, 0), 800);
        Check.refuses(x, STATE, "the second recourse", () -> x.recourse(0));
        Check.refuses(x, STATE, "to be assigned again", () -> x.assign(0, 4, true));
        x.dispute(1, true);
        is("disputed: all is above the base", x.recourse(1), 800);
        is("nothing is drawn", x.drawn(4, 0), 0);
        recourseOfAnEmptyPurse();
        recourseBelowTheBase();
        recourseToTheNextFactor();
    }

    private static void recourseOfAnEmptyPurse() {
        FactorHouse x = wide();
        x.factor(4, 100, 100, 9);
        assigned(x, of(0, 0, 1000, 0), 4, true);
        assigned(x, of(0, 1, 5000, 0), 4, true);
        x.draw(4, 0, 6000);
        x.pass(1);
        x.dispute(0, true);
        is("drawn with interest", x.drawn(4, 0), 6005);
        is("1005 above the base", x.recourse(0), 1005);
        x.dispute(1, true);
        is("at most what the purse has", x.recourse(1), 4995);
        is("the purse is empty", x.purse(0), 0);
        is("5 stay drawn", x.drawn(4, 0), 5);
        x.invoice(0, 2, 50, 0);
        x.assign(2, 5, false);
        x.assign(2, 4, false);
        x.dispute(2, true);
        is("an empty purse pays nothing", x.recourse(2), 0);
        is("that was 5's", x.invoiceIs(2, 1), 4);
        is("neither does it to 4", x.recourse(2), 0);
        is("5 stay drawn still", x.drawn(4, 0), 5);
    }

    private static void recourseBelowTheBase() {
        FactorHouse x = wide();
        assigned(x, of(0, 0, 1000, 0), 4, true);
        assigned(x, of(0, 0, 1000, 0), 4, true);
        x.draw(4, 0, 800);
        x.dispute(0, true);
        is("no more is drawn than the base", x.recourse(0), 0);
        is("so all stays drawn", x.drawn(4, 0), 800);
        is("and with the seller", x.purse(0), 800);
        x.pay(1, 4, 1000);
        x.dispute(1, true);
        is("also what is paid is given back", x.recourse(1), 0);
        is("to the seller", x.invoiceIs(1, 1), 0);
    }

    private static void recourseToTheNextFactor() {
        FactorHouse x = wide();
        x.invoice(0, 0, 1000, 0);
        x.assign(0, 4, false);
        x.assign(0, 5, true);
        x.draw(5, 0, 100);
        x.dispute(0, true);
        is("from the one who is told", x.recourse(0), 100);
        is("to the silent one", x.invoiceIs(0, 1), 4);
        is("the buyer is free by the seller", x.invoiceIs(0, 2), 0);
        is("5 has it back", x.purse(5), 0);
        is("4 has none of it", x.purse(4), 0);
        is("nothing is drawn from 5", x.drawn(5, 0), 0);
    }

    // Promise 23
    private static void fail() {
        FactorHouse x = wide();
        for (int bad : new int[] {4, -1, Integer.MIN_VALUE, Integer.MAX_VALUE}) {
            Check.refuses(x, INDEX, "fail(" + bad + ")", () -> x.fail(bad));
        }
        x.invoice(0, 0, 100, 0);
        x.assign(0, 4, false);
        x.assign(0, 5, false);
        x.assign(0, 6, false);
        x.notice(0, 6);
        x.register(0, 5);
        x.invoice(0, 0, 100, 0);
        x.assign(1, 4, false);
        x.assign(1, 5, false);
        x.invoice(1, 0, 100, 0);
        x.assign(2, 4, false);
        x.invoice(0, 0, 100, 0);
        x.assign(3, 4, false);
        x.giveBack(3, 4);
        x.draw(4, 0, 80);
        is("three silent ones", x.fail(0), 3);
        is("the one with a notice stays", x.invoiceIs(0, 1), 6);
        is("the one with a register stays", x.giveBack(0, 6), 5);
        is("the silent one does not", x.giveBack(0, 5), 0);
        is("the second invoice is the seller's", x.invoiceIs(1, 1), 0);
        is("another seller's stays", x.invoiceIs(2, 1), 4);
        is("what is drawn stays", x.drawn(4, 0), 80);
        Check.refuses(x, STATE, "fail twice", () -> x.fail(0));
        Check.refuses(x, STATE, "invoice of him", () -> x.invoice(0, 0, 1, 0));
        Check.refuses(x, STATE, "assign of his", () -> x.assign(3, 6, true));
        Check.refuses(x, STATE, "notice of his silent one", () -> x.notice(1, 4));
        is("none of one without", x.fail(3), 0);
        is("another one sells on", x.invoice(1, 0, 1, 0), 4);
        is("his purse is there", x.pay(1, 0, 100), 0);
    }

    // Promise 24
    private static void pass() {
        FactorHouse x = wide();
        for (int bad : new int[] {0, -1, 101, Integer.MIN_VALUE, Integer.MAX_VALUE}) {
            Check.refuses(x, ARGUMENT, "pass(" + bad + ")", () -> x.pass(bad));
        }
        assigned(x, of(0, 0, 100000, 0), 4, true);
        assigned(x, of(1, 1, 100000, 0), 5, true);
        x.factor(4, 80, 100, 9);
        x.draw(4, 0, 50000);
        x.draw(5, 1, 3333);
        is("two days", x.pass(2), 2);
        is("interest on interest: 45 and 45.04", x.drawn(4, 0), 50090);
        is("below a cent there is none", x.drawn(5, 1), 3333);
        is("interest moves no money", x.purse(0) + x.purse(4), 0);
        is("98 days", x.pass(98), 100);
        is("interest of each day, rounded down", x.drawn(4, 0), 54657);
        for (int i = 2; i <= 29; i++) {
            is("100 days", x.pass(100), i * 100);
        }
        is("99 days", x.pass(99), 2999);
        Check.refuses(x, STATE, "the day 3001", () -> x.pass(2));
        Check.refuses(x, ARGUMENT, "101 days then", () -> x.pass(101));
        is("the day 3000", x.pass(1), 3000);
        Check.refuses(x, STATE, "a day behind it", () -> x.pass(1));
        is("an invoice on the last day", x.invoiceIs(x.invoice(0, 0, 1, 300), 3), 3300);
    }

    // Promise 25
    private static void pool() {
        FactorHouse x = wide();
        assigned(x, of(0, 0, 100, 0), 4, false);
        assigned(x, of(1, 1, 100, 0), 5, true);
        x.invoice(0, 0, 100, 0);
        Check.refuses(x, INDEX, "pool(3)", () -> x.pool(3));
        Check.refuses(x, INDEX, "pool(-1)", () -> x.pool(-1));
        Check.refuses(x, STATE, "pool of a seller's", () -> x.pool(2));
        is("the first one", x.pool(0), 1);
        Check.refuses(x, STATE, "the first one twice", () -> x.pool(0));
        x.dispute(1, true);
        Check.refuses(x, STATE, "one that is disputed", () -> x.pool(1));
        x.dispute(1, false);
        is("the second one", x.pool(1), 2);
        x.dispute(0, true);
        is("the first one goes", x.look(), 1);
        x.dispute(0, false);
        Check.refuses(x, STATE, "the first one again", () -> x.pool(0));
        assigned(x, of(2, 2, 10, 0), 6, true);
        is("those that are in it", x.pool(3), 2);
        assigned(x, of(2, 3, 10, 0), 6, true);
        x.pass(61);
        Check.refuses(x, STATE, "an old one", () -> x.pool(4));
    }

    // Promise 26
    private static void look() {
        FactorHouse x = wide();
        for (int i = 0; i < 4; i++) {
            assigned(x, of(0, i, 100, 10), 4, false);
            x.pool(i);
        }
        is("all count", x.look(), 0);
        x.dispute(0, true);
        x.credit(1, 100);
        x.assign(2, 5, true);
        is("it counts for another one", x.invoiceIs(2, 5), 5);
        is("three do not count for 4", x.look(), 3);
        is("none twice", x.look(), 0);
        x.pass(71);
        is("an old one", x.look(), 1);
        is("none is in it", x.look(), 0);
        lookByHalf();
    }

    private static void lookByHalf() {
        FactorHouse x = wide();
        assigned(x, of(0, 0, 50, 300), 4, true);
        assigned(x, of(0, 0, 60, 0), 4, true);
        assigned(x, of(0, 1, 200, 300), 4, true);
        x.pool(0);
        x.pool(2);
        x.pass(61);
        is("more than a half is old", x.look(), 1);
        is("that is not bad", x.financed(), 180);
    }

    // Promise 27
    private static void financed() {
        FactorHouse x = wide();
        int[] amounts = {100, 455, 445, 300};
        for (int i = 0; i < 3; i++) {
            assigned(x, of(0, i, amounts[i], 10), 4, true);
            x.pool(i);
        }
        is("all of 1000", x.financed(), 900);
        x.pay(1, 4, 4);
        is("by what is owed now: 996", x.financed(), 896);
        x.dispute(0, true);
        is("before a look nothing goes", x.financed(), 896);
        x.look();
        is("100 bad of 1000 are not too much: 896", x.financed(), 806);
        x.dispute(0, false);
        x.credit(2, 5);
        x.dispute(2, true);
        x.look();
        is("545 bad of 1000", x.financed(), 0);
        x.dispute(2, false);
        x.look();
        is("for good", x.financed(), 0);
        for (int i = 0; i < 4; i++) {
            x.pool(assigned(x, of(1, 3, 1112, 10), 4, true));
        }
        is("545 bad of 5448 are too much", x.financed(), 0);
        x.pool(assigned(x, of(1, 3, 2, 10), 4, true));
        is("545 bad of 5450 are not: 451 and 4450", x.financed(), 4410);
        financedWithoutBad();
    }

    private static void financedWithoutBad() {
        FactorHouse x = wide();
        assigned(x, of(0, 0, 100, 10), 4, true);
        assigned(x, of(0, 1, 100, 10), 4, true);
        assigned(x, of(0, 2, 11, 300), 4, true);
        for (int i = 0; i < 3; i++) {
            x.pool(i);
        }
        x.dispute(0, true);
        x.pay(0, 4, 100);
        x.giveBack(1, 4);
        is("one paid, one given back", x.look(), 2);
        is("neither is bad: 11", x.financed(), 9);
        x.pass(71);
        x.look();
        is("those that are out do not get bad", x.financed(), 9);
        FactorHouse y = wide();
        assigned(y, of(0, 0, 100, 10), 4, true);
        assigned(y, of(0, 1, 200, 300), 4, true);
        y.pool(0);
        y.pool(1);
        y.giveBack(0, 4);
        y.dispute(0, true);
        is("given back and disputed", y.look(), 1);
        is("that is bad", y.financed(), 0);
        FactorHouse z = wide();
        assigned(z, of(0, 0, 100, 10), 4, true);
        assigned(z, of(0, 1, 200, 300), 4, true);
        z.pool(0);
        z.pool(1);
        z.pass(71);
        z.credit(0, 99);
        is("an old one is in it till a look", z.financed(), 180);
        is("old", z.look(), 1);
        is("that is bad by what was owed, though 1 is left", z.financed(), 0);
        FactorHouse v = wide();
        assigned(v, of(0, 0, 10, 10), 4, true);
        assigned(v, of(0, 1, 89, 10), 4, true);
        v.pool(0);
        v.pool(1);
        v.dispute(0, true);
        v.look();
        is("10 bad of 99 are too much", v.financed(), 0);
    }

    /** With 40 invoices, each call that goes through all of them. */
    private static void fullHouse() {
        FactorHouse x = wide();
        for (int i = 0; i < 40; i++) {
            assigned(x, of(i == 39 ? 1 : 0, 0, 1, i), i == 39 ? 6 : 4, false);
            x.pool(i);
        }
        is("40 are financed", x.financed(), 36);
        is("40 are looked at", x.look(), 0);
        is("39 in a base: 31.2", x.base(4, 0), 31);
        is("1 in a base: 0.8", x.base(6, 1), 0);
        is("39 by the days due", x.lump(0, 0, 39), 39);
        is("the last one is left", x.invoiceIs(39, 0), 1);
        is("of the last one just so much is owed", x.lump(0, 1, 1), 1);
        is("nothing is left", x.invoiceIs(39, 0), 0);
        is("none was wrong", x.mend(), 0);
        is("40 are taken out", x.look(), 40);
        is("39 silent ones of 0", x.fail(0), 39);
        is("the last one of 1", x.fail(1), 1);
        is("the last one is his", x.invoiceIs(39, 1), 1);
        FactorHouse y = new FactorHouse();
        for (int i = 0; i < 40; i++) {
            y.invoice(0, 0, 2, 40 - i);
        }
        is("all 40 by one lump sum", y.lump(0, 0, 100), 40);
        is("the first one, due last", y.invoiceIs(0, 0), 0);
        is("20 are not matched", y.purse(0), 100);
    }
}
