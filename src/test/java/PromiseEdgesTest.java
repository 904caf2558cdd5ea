/**
 * For each sentence of the promises that names a boundary, a test of its own: the least and the
 * greatest argument and the next one beyond it, an empty house and a full one, which exception comes
 * where several are due, and that a refused call leaves everything as it was.
 */
public final class PromiseEdgesTest {
    private static final int LEAST_INT = Integer.MIN_VALUE;
    private static final int GREATEST_INT = Integer.MAX_VALUE;

    private PromiseEdgesTest() {
    }

    public static void main(String[] args) {
        aNewObject();
        invoice();
        credit();
        dispute();
        assign();
        notice();
        register();
        giveBack();
        invoiceIs();
        owedAnew();
        pay();
        lump();
        lumpOfManyWrongOnes();
        mend();
        purse();
        buyer();
        balances();
        factor();
        limit();
        base();
        drawn();
        draw();
        recourse();
        fail();
        pass();
        poolOne();
        look();
        financed();
        Check.end();
    }

    private static void is(String what, long got, long want) {
        Edge.is(what, got, want);
    }

    private static void promise(int number, String name) {
        Edge.sentence("Promise " + number + ": " + name);
    }

    // ---- what the houses begin with

    private static FactorHouse silent(int amount) {
        FactorHouse house = Edge.oneBilled(amount);
        house.assign(0, 4, false);
        return house;
    }

    private static FactorHouse failed() {
        FactorHouse house = Edge.oneSold(1000);
        house.fail(0);
        return house;
    }

    private static FactorHouse paid() {
        FactorHouse house = Edge.oneSold(10);
        house.pay(0, 4, 10);
        return house;
    }

    /** 40 invoices of seller 0 and buyer 0, of 100 cents each, with factor 4 and in the pool. */
    private static FactorHouse fullPool() {
        FactorHouse house = new FactorHouse();
        house.limit(4, 0, 100000000);
        for (int number = 0; number < 40; number++) {
            Edge.sold(house, 0, 100, 0);
            house.pool(number);
        }
        return house;
    }

    /** 40 invoices of seller 0 and buyer 0, silently with factor 4. */
    private static FactorHouse fullSilent() {
        FactorHouse house = Edge.fullHouse();
        for (int number = 0; number < 40; number++) {
            house.assign(number, 4, false);
        }
        return house;
    }

    private static FactorHouse drawnAll() {
        FactorHouse house = Edge.oneSold(1000);
        house.draw(4, 0, 800);
        return house;
    }

    // ---- the promises

    private static void aNewObject() {
        promise(1, "Begins on the day 0, without invoices");
        is("NONE", FactorHouse.NONE, -1);
        is("the day 0", new FactorHouse().pass(1), 1);
        is("due on the day 0", Edge.oneBilled(1).invoiceIs(0, 3), 0);
        is("the first number", new FactorHouse().invoice(0, 0, 1, 0), 0);
        Edge.refused(Edge.INDEX, "owedAnew(0)", FactorHouse::new, x -> x.owedAnew(0));
        Edge.refused(Edge.INDEX, "pay(0, 0, 1)", FactorHouse::new, x -> x.pay(0, 0, 1));
        is("no bases", new FactorHouse().base(4, 0), 0);
        is("nothing drawn", new FactorHouse().drawn(4, 0), 0);
        FactorHouse first = Edge.passed(Edge.oneSold(1000), 5);
        first.draw(4, 0, 800);
        first.fail(1);
        FactorHouse second = new FactorHouse();
        is("another house has its own invoices", second.invoice(1, 1, 7, 0), 0);
        is("another house has its own day", second.invoiceIs(0, 3), 0);
        is("another house has its own purses", second.purse(0), 0);
        is("another house has its own limits", second.base(4, 1), 0);
    }

    private static void invoice() {
        promise(2, "seller");
        Edge.refusedEach(Edge.INDEX, "of seller", FactorHouse::new,
                (x, bad) -> x.invoice(bad, 0, 1, 0), -1, 4, 7, LEAST_INT, GREATEST_INT);
        is("the least", new FactorHouse().invoice(0, 0, 1, 0), 0);
        is("the greatest", new FactorHouse().invoice(3, 0, 1, 0), 0);
        promise(2, "buyer");
        Edge.refusedEach(Edge.INDEX, "of buyer", FactorHouse::new,
                (x, bad) -> x.invoice(0, bad, 1, 0), -1, 5, LEAST_INT, GREATEST_INT);
        is("the greatest", new FactorHouse().invoice(0, 4, 1, 0), 0);
        promise(2, "amount, 1 to 1000000");
        Edge.refusedEach(Edge.ARGUMENT, "of amount", FactorHouse::new,
                (x, bad) -> x.invoice(0, 0, bad, 0), 0, -1, 1000001, LEAST_INT, GREATEST_INT);
        is("the least", new FactorHouse().invoice(0, 0, 1, 0), 0);
        is("the greatest", new FactorHouse().invoice(0, 0, 1000000, 0), 0);
        promise(2, "days, 0 to 300");
        Edge.refusedEach(Edge.ARGUMENT, "in days", FactorHouse::new,
                (x, bad) -> x.invoice(0, 0, 1, bad), -1, 301, LEAST_INT, GREATEST_INT);
        is("the least", new FactorHouse().invoice(0, 0, 1, 0), 0);
        is("the greatest", new FactorHouse().invoice(0, 0, 1, 300), 0);
        invoiceRefused();
    }

    private static void invoiceRefused() {
        promise(2, "if there are 40, or the seller failed");
        FactorHouse x = Edge.fullHouse();
        is("the last one", x.invoiceIs(39, 0), 2);
        Edge.refused(Edge.STATE, "a 41st", Edge::fullHouse, y -> y.invoice(0, 0, 1, 0));
        Edge.refused(Edge.STATE, "one who failed", PromiseEdgesTest::failed,
                y -> y.invoice(0, 0, 1, 0));
        is("one who did not", failed().invoice(1, 0, 1, 0), 1);
        promise(2, "of several exceptions");
        Edge.refused(Edge.INDEX, "seller, amount, days", FactorHouse::new,
                y -> y.invoice(-1, 0, 0, 301));
        Edge.refused(Edge.INDEX, "buyer, amount", FactorHouse::new, y -> y.invoice(0, 5, 0, 0));
        Edge.refused(Edge.INDEX, "buyer, days", FactorHouse::new, y -> y.invoice(0, 5, 1, -1));
        Edge.refused(Edge.INDEX, "buyer, 40", Edge::fullHouse, y -> y.invoice(0, 5, 1, 0));
        Edge.refused(Edge.INDEX, "seller, 40", Edge::fullHouse, y -> y.invoice(4, 0, 1, 0));
        Edge.refused(Edge.INDEX, "buyer, failed", PromiseEdgesTest::failed,
                y -> y.invoice(0, -1, 1, 0));
        Edge.refused(Edge.ARGUMENT, "amount, 40", Edge::fullHouse, y -> y.invoice(0, 0, 0, 0));
        Edge.refused(Edge.ARGUMENT, "days, 40", Edge::fullHouse, y -> y.invoice(0, 0, 1, 301));
        Edge.refused(Edge.ARGUMENT, "amount, failed", PromiseEdgesTest::failed,
                y -> y.invoice(0, 0, 1000001, 0));
        Edge.refused(Edge.ARGUMENT, "days, failed", PromiseEdgesTest::failed,
                y -> y.invoice(0, 0, 1, -1));
    }

    private static void credit() {
        promise(3, "invoice");
        Edge.refusedEach(Edge.INDEX, "credit", FactorHouse::new, (x, bad) -> x.credit(bad, 1),
                0, -1, 40);
        Edge.refusedEach(Edge.INDEX, "credit", () -> Edge.oneBilled(10),
                (x, bad) -> x.credit(bad, 1), 1, -1, 40, LEAST_INT, GREATEST_INT);
        FactorHouse full = Edge.fullHouse();
        is("the last one of a full house", full.credit(39, 1), 1);
        is("the first one of a full house", full.credit(0, 2), 0);
        Edge.refused(Edge.INDEX, "40 of a full house", Edge::fullHouse, x -> x.credit(40, 1));
        promise(3, "amount, 1 to what is owed");
        is("the least", Edge.oneBilled(10).credit(0, 1), 9);
        is("the greatest", Edge.oneBilled(10).credit(0, 10), 0);
        is("the greatest of all", Edge.oneBilled(1000000).credit(0, 1000000), 0);
        Edge.refusedEach(Edge.ARGUMENT, "credit", () -> Edge.oneSold(10),
                (x, bad) -> x.credit(0, bad), 0, -1, 11, LEAST_INT, GREATEST_INT);
        Edge.Start partly = () -> {
            FactorHouse x = Edge.oneBilled(10);
            x.credit(0, 4);
            return x;
        };
        is("what is owed then", partly.make().credit(0, 6), 0);
        Edge.refused(Edge.ARGUMENT, "above what is owed then", partly, x -> x.credit(0, 7));
        Edge.refusedEach(Edge.ARGUMENT, "when nothing is owed", PromiseEdgesTest::paid,
                (x, bad) -> x.credit(0, bad), 0, 1);
        promise(3, "of several exceptions");
        Edge.refused(Edge.INDEX, "invoice, amount", () -> Edge.oneBilled(10),
                x -> x.credit(1, 0));
    }

    private static void dispute() {
        promise(4, "invoice");
        for (int flag = 0; flag < 2; flag++) {
            boolean isDisputed = flag == 1;
            Edge.refusedEach(Edge.INDEX, "dispute", FactorHouse::new,
                    (x, bad) -> x.dispute(bad, isDisputed), 0, -1);
            Edge.refusedEach(Edge.INDEX, "dispute", () -> Edge.oneSold(10),
                    (x, bad) -> x.dispute(bad, isDisputed), 1, -1, 40, LEAST_INT, GREATEST_INT);
        }
        FactorHouse full = Edge.fullHouse();
        Edge.is("the last one of a full house", full.dispute(39, true), false);
        is("it is disputed", full.invoiceIs(39, 4), 1);
        is("the one before is not", full.invoiceIs(38, 4), 0);
        Edge.refused(Edge.INDEX, "40 of a full house", Edge::fullHouse, x -> x.dispute(40, true));
        promise(4, "Returns whether it was");
        FactorHouse x = Edge.oneBilled(10);
        Edge.is("at first, no", x.dispute(0, false), false);
        Edge.is("then, yes", x.dispute(0, true), false);
        Edge.is("twice", x.dispute(0, true), true);
        Edge.is("then, no", x.dispute(0, false), true);
        Edge.is("twice no", x.dispute(0, false), false);
        FactorHouse y = paid();
        Edge.is("one that is paid", y.dispute(0, true), false);
        is("is disputed, too", y.invoiceIs(0, 4), 1);
    }

    private static void assign() {
        promise(5, "invoice");
        Edge.refusedEach(Edge.INDEX, "assign", FactorHouse::new,
                (x, bad) -> x.assign(bad, 4, true), 0, -1);
        Edge.refusedEach(Edge.INDEX, "assign", () -> Edge.oneBilled(10),
                (x, bad) -> x.assign(bad, 4, false), 1, -1, 40, LEAST_INT, GREATEST_INT);
        is("the last one of a full house", Edge.fullHouse().assign(39, 6, true), 6);
        Edge.refused(Edge.INDEX, "40 of a full house", Edge::fullHouse,
                x -> x.assign(40, 4, true));
        promise(5, "factor, 4 to 6");
        is("the least", Edge.oneBilled(10).assign(0, 4, true), 4);
        is("the greatest", Edge.oneBilled(10).assign(0, 6, true), 6);
        Edge.refusedEach(Edge.INDEX, "assign to", () -> Edge.oneBilled(10),
                (x, bad) -> x.assign(0, bad, true), 3, 0, -1, 7, LEAST_INT, GREATEST_INT);
        promise(5, "isNotice: whether a notice is given at once");
        FactorHouse x = silent(10);
        is("without", x.invoiceIs(0, 2), 0);
        is("with, behind one without", x.assign(0, 5, true), 5);
        is("it tells the buyer", x.invoiceIs(0, 2), 5);
        is("with, behind one with", x.assign(0, 6, true), 5);
        assignRefused();
    }

    private static void assignRefused() {
        promise(5, "if it was assigned to this one ever, nothing is owed, or the seller failed");
        Edge.refused(Edge.STATE, "twice", () -> silent(10), x -> x.assign(0, 4, true));
        Edge.refused(Edge.STATE, "twice, with notice", () -> Edge.oneSold(10),
                x -> x.assign(0, 4, true));
        Edge.refused(Edge.STATE, "after it was given back", () -> {
            FactorHouse x = silent(10);
            x.giveBack(0, 4);
            return x;
        }, x -> x.assign(0, 4, true));
        Edge.refused(Edge.STATE, "after recourse", () -> {
            FactorHouse x = silent(10);
            x.dispute(0, true);
            x.recourse(0);
            return x;
        }, x -> x.assign(0, 4, true));
        Edge.refused(Edge.STATE, "nothing is owed", PromiseEdgesTest::paid,
                x -> x.assign(0, 5, true));
        Edge.refused(Edge.STATE, "the seller failed", PromiseEdgesTest::failed,
                x -> x.assign(0, 5, false));
        FactorHouse x = Edge.oneBilled(10);
        x.credit(0, 9);
        is("a cent is owed", x.assign(0, 4, true), 4);
        FactorHouse y = Edge.oneBilled(10);
        y.fail(1);
        is("another one failed", y.assign(0, 4, true), 4);
        FactorHouse z = Edge.oneBilled(10);
        z.dispute(0, true);
        is("a disputed one", Edge.passed(z, 100).assign(0, 4, true), 4);
        promise(5, "of several exceptions");
        Edge.refused(Edge.INDEX, "factor, nothing is owed", PromiseEdgesTest::paid,
                v -> v.assign(0, 7, true));
        Edge.refused(Edge.INDEX, "factor, failed", PromiseEdgesTest::failed,
                v -> v.assign(0, 3, true));
        Edge.refused(Edge.INDEX, "invoice, factor", () -> Edge.oneBilled(10),
                v -> v.assign(1, 3, true));
    }

    private static void notice() {
        promise(6, "invoice and factor");
        Edge.refused(Edge.INDEX, "in an empty house", FactorHouse::new, x -> x.notice(0, 4));
        Edge.refusedEach(Edge.INDEX, "notice for", () -> silent(10),
                (x, bad) -> x.notice(bad, 4), 1, -1, 40, LEAST_INT, GREATEST_INT);
        Edge.refusedEach(Edge.INDEX, "notice of", () -> silent(10),
                (x, bad) -> x.notice(0, bad), 3, 0, -1, 7, LEAST_INT, GREATEST_INT);
        is("the last one of a full house", fullSilent().notice(39, 4), 4);
        Edge.refused(Edge.INDEX, "40 of a full house", PromiseEdgesTest::fullSilent,
                x -> x.notice(40, 4));
        FactorHouse x = Edge.oneBilled(10);
        x.assign(0, 6, false);
        is("the greatest factor", x.notice(0, 6), 6);
        promise(6, "if there is no such assignment, or it has one");
        Edge.refused(Edge.STATE, "no assignment", () -> Edge.oneBilled(10),
                y -> y.notice(0, 4));
        Edge.refused(Edge.STATE, "another one's assignment", () -> silent(10),
                y -> y.notice(0, 5));
        Edge.refused(Edge.STATE, "another invoice's assignment", () -> {
            FactorHouse y = silent(10);
            y.invoice(0, 0, 10, 0);
            return y;
        }, y -> y.notice(1, 4));
        Edge.refused(Edge.STATE, "it has one", () -> Edge.oneSold(10), y -> y.notice(0, 4));
        Edge.refused(Edge.STATE, "gone as the seller failed", () -> {
            FactorHouse y = silent(10);
            y.fail(0);
            return y;
        }, y -> y.notice(0, 4));
        FactorHouse y = silent(10);
        y.register(0, 4);
        y.credit(0, 10);
        y.fail(0);
        is("nothing owed and a failed seller are no reason", y.notice(0, 4), 4);
        is("the buyer is told", y.invoiceIs(0, 2), 4);
        promise(6, "of several exceptions");
        Edge.refused(Edge.INDEX, "factor, no assignment", () -> Edge.oneBilled(10),
                z -> z.notice(0, 3));
    }

    private static void register() {
        promise(7, "invoice and factor");
        Edge.refused(Edge.INDEX, "in an empty house", FactorHouse::new, x -> x.register(0, 4));
        Edge.refusedEach(Edge.INDEX, "register for", () -> silent(10),
                (x, bad) -> x.register(bad, 4), 1, -1, 40, LEAST_INT, GREATEST_INT);
        Edge.refusedEach(Edge.INDEX, "register of", () -> silent(10),
                (x, bad) -> x.register(0, bad), 3, 0, -1, 7, LEAST_INT, GREATEST_INT);
        is("the last one of a full house", fullSilent().register(39, 4), 4);
        Edge.refused(Edge.INDEX, "40 of a full house", PromiseEdgesTest::fullSilent,
                x -> x.register(40, 4));
        FactorHouse x = Edge.oneBilled(10);
        x.assign(0, 6, false);
        is("the greatest factor", x.register(0, 6), 6);
        promise(7, "if there is no such assignment, or it is registered");
        Edge.refused(Edge.STATE, "no assignment", () -> Edge.oneBilled(10),
                y -> y.register(0, 4));
        Edge.refused(Edge.STATE, "another one's assignment", () -> silent(10),
                y -> y.register(0, 5));
        Edge.refused(Edge.STATE, "it is registered", () -> {
            FactorHouse y = silent(10);
            y.register(0, 4);
            return y;
        }, y -> y.register(0, 4));
        Edge.refused(Edge.STATE, "it was given back", () -> {
            FactorHouse y = Edge.oneSold(10);
            y.giveBack(0, 4);
            return y;
        }, y -> y.register(0, 4));
        Edge.refused(Edge.STATE, "gone as the seller failed", () -> {
            FactorHouse y = silent(10);
            y.fail(0);
            return y;
        }, y -> y.register(0, 4));
        is("behind a notice", Edge.oneSold(10).register(0, 4), 4);
        is("when nothing is owed", paid().register(0, 4), 4);
        is("of one who failed", failed().register(0, 4), 4);
        promise(7, "of several exceptions");
        Edge.refused(Edge.INDEX, "factor, no assignment", () -> Edge.oneBilled(10),
                z -> z.register(0, 7));
    }

    private static void giveBack() {
        promise(8, "invoice and factor");
        Edge.refused(Edge.INDEX, "in an empty house", FactorHouse::new, x -> x.giveBack(0, 4));
        Edge.refusedEach(Edge.INDEX, "giveBack for", () -> silent(10),
                (x, bad) -> x.giveBack(bad, 4), 1, -1, 40, LEAST_INT, GREATEST_INT);
        Edge.refusedEach(Edge.INDEX, "giveBack of", () -> silent(10),
                (x, bad) -> x.giveBack(0, bad), 3, 0, -1, 7, LEAST_INT, GREATEST_INT);
        FactorHouse full = fullSilent();
        is("the last one of a full house", full.giveBack(39, 4), 0);
        is("the one before stays", full.invoiceIs(38, 1), 4);
        Edge.refused(Edge.INDEX, "40 of a full house", PromiseEdgesTest::fullSilent,
                x -> x.giveBack(40, 4));
        promise(8, "if there is no such assignment");
        Edge.refused(Edge.STATE, "no assignment", () -> Edge.oneBilled(10),
                y -> y.giveBack(0, 4));
        Edge.refused(Edge.STATE, "another one's assignment", () -> silent(10),
                y -> y.giveBack(0, 6));
        Edge.refused(Edge.STATE, "twice", () -> {
            FactorHouse y = silent(10);
            y.giveBack(0, 4);
            return y;
        }, y -> y.giveBack(0, 4));
        Edge.refused(Edge.STATE, "after recourse", () -> {
            FactorHouse y = silent(10);
            y.dispute(0, true);
            y.recourse(0);
            return y;
        }, y -> y.giveBack(0, 4));
        Edge.refused(Edge.STATE, "gone as the seller failed", () -> {
            FactorHouse y = silent(10);
            y.fail(0);
            return y;
        }, y -> y.giveBack(0, 4));
        is("when nothing is owed", paid().giveBack(0, 4), 0);
        FactorHouse z = drawnAll();
        is("when all is drawn", z.giveBack(0, 4), 0);
        is("that stays drawn", z.drawn(4, 0), 800);
        promise(8, "of several exceptions");
        Edge.refused(Edge.INDEX, "factor, no assignment", () -> Edge.oneBilled(10),
                v -> v.giveBack(0, 3));
    }

    private static void invoiceIs() {
        promise(9, "invoice");
        for (int what = 0; what < 6; what++) {
            int asked = what;
            Edge.refusedEach(Edge.INDEX, "what " + what, FactorHouse::new,
                    (x, bad) -> x.invoiceIs(bad, asked), 0, -1);
            Edge.refusedEach(Edge.INDEX, "what " + what, () -> Edge.oneBilled(10),
                    (x, bad) -> x.invoiceIs(bad, asked), 1, -1, 40, LEAST_INT, GREATEST_INT);
        }
        FactorHouse full = fullSilent();
        int[] due = {2, 4, 0, 39, 0, 4};
        for (int what = 0; what < 6; what++) {
            is("the last one of a full house, " + what, full.invoiceIs(39, what), due[what]);
        }
        promise(9, "what, 0 to 5");
        Edge.refusedEach(Edge.ARGUMENT, "what", () -> Edge.oneSold(10),
                (x, bad) -> x.invoiceIs(0, bad), -1, 6, LEAST_INT, GREATEST_INT);
        FactorHouse x = Edge.passed(Edge.wide(), 3);
        x.invoice(2, 3, 77, 9);
        x.assign(0, 6, false);
        x.assign(0, 5, false);
        x.notice(0, 5);
        x.dispute(0, true);
        int[] disputed = {77, 5, 5, 12, 1, -1};
        for (int what = 0; what < 6; what++) {
            is("disputed, " + what, x.invoiceIs(0, what), disputed[what]);
        }
        promise(9, "the factor for whom it counts, NONE for none");
        is("none, of a seller", Edge.oneBilled(10).invoiceIs(0, 5), FactorHouse.NONE);
        is("none, of a paid one", paid().invoiceIs(0, 5), FactorHouse.NONE);
        is("one, of a failed seller", failed().invoiceIs(0, 5), 4);
        promise(9, "of several exceptions");
        Edge.refused(Edge.INDEX, "invoice, what", () -> Edge.oneBilled(10),
                y -> y.invoiceIs(1, 6));
    }

    private static void owedAnew() {
        promise(10, "invoice");
        Edge.refusedEach(Edge.INDEX, "owedAnew", FactorHouse::new, (x, bad) -> x.owedAnew(bad),
                0, -1, 40);
        Edge.refusedEach(Edge.INDEX, "owedAnew", () -> Edge.oneBilled(10),
                (x, bad) -> x.owedAnew(bad), 1, -1, 40, LEAST_INT, GREATEST_INT);
        is("the last one of a full house", Edge.fullHouse().owedAnew(39), 2);
        Edge.refused(Edge.INDEX, "40 of a full house", Edge::fullHouse, x -> x.owedAnew(40));
        promise(10, "from its amount, credit notes and all payments, one by one");
        is("the amount", Edge.oneBilled(1000000).owedAnew(0), 1000000);
        FactorHouse x = Edge.oneBilled(1000);
        x.credit(0, 1);
        is("a credit note", x.owedAnew(0), 999);
        x.pay(0, 0, 2);
        is("a payment", x.owedAnew(0), 997);
        x.pay(0, 3, 4);
        is("a wrong one", x.owedAnew(0), 997);
        x.mend();
        is("a mended one", x.owedAnew(0), 993);
        x.lump(0, 0, 8);
        is("a lump sum", x.owedAnew(0), 985);
        x.lump(0, 3, 985);
        is("a wrong lump sum", x.owedAnew(0), 985);
        x.credit(0, 900);
        x.mend();
        is("a mended one, as far as it goes", x.owedAnew(0), 0);
        FactorHouse y = Edge.oneBilled(10);
        y.pay(0, 0, 1000000);
        is("never below 0", y.owedAnew(0), 0);
        FactorHouse z = Edge.fullHouse();
        z.lump(0, 0, 77);
        is("the last one that is paid by a lump sum", z.owedAnew(37), 0);
        is("the one that is paid in part", z.owedAnew(38), 1);
        is("the one that is not paid", z.owedAnew(39), 2);
    }

    private static void pay() {
        promise(11, "invoice and party");
        Edge.refused(Edge.INDEX, "in an empty house", FactorHouse::new, x -> x.pay(0, 0, 1));
        Edge.refusedEach(Edge.INDEX, "pay for", () -> Edge.oneBilled(10),
                (x, bad) -> x.pay(bad, 0, 1), 1, -1, 40, LEAST_INT, GREATEST_INT);
        Edge.refusedEach(Edge.INDEX, "pay to", () -> Edge.oneBilled(10),
                (x, bad) -> x.pay(0, bad, 1), -1, 7, LEAST_INT, GREATEST_INT);
        is("the least party", Edge.oneBilled(10).pay(0, 0, 1), 9);
        FactorHouse greatest = Edge.oneBilled(10);
        greatest.assign(0, 6, true);
        is("the greatest party", greatest.pay(0, 6, 1), 9);
        is("the last one of a full house", Edge.fullHouse().pay(39, 0, 1), 1);
        Edge.refused(Edge.INDEX, "40 of a full house", Edge::fullHouse, x -> x.pay(40, 0, 1));
        promise(11, "amount, 1 to 1000000");
        is("the least", Edge.oneBilled(1000000).pay(0, 0, 1), 999999);
        is("the greatest", Edge.oneBilled(1000000).pay(0, 0, 1000000), 0);
        is("the greatest of little", Edge.oneBilled(1).pay(0, 0, 1000000), 0);
        Edge.refusedEach(Edge.ARGUMENT, "pay", () -> Edge.oneSold(10),
                (x, bad) -> x.pay(0, 4, bad), 0, -1, 1000001, LEAST_INT, GREATEST_INT);
        promise(11, "Returns what is owed then");
        is("rightly", Edge.oneBilled(10).pay(0, 0, 3), 7);
        is("wrongly", Edge.oneBilled(10).pay(0, 1, 3), 10);
        payRefused();
    }

    private static void payRefused() {
        promise(11, "if nothing is owed, or there would be more than 30 wrong payments");
        Edge.refused(Edge.STATE, "nothing is owed, rightly", PromiseEdgesTest::paid,
                x -> x.pay(0, 4, 1));
        Edge.refused(Edge.STATE, "nothing is owed, wrongly", PromiseEdgesTest::paid,
                x -> x.pay(0, 1, 1));
        Edge.refused(Edge.STATE, "a 31st", () -> Edge.wronglyPaid(30), x -> x.pay(0, 2, 1));
        is("a 30th", Edge.wronglyPaid(29).pay(0, 2, 1), 1000);
        is("a right one behind 30", Edge.wronglyPaid(30).pay(0, 0, 1000), 0);
        FactorHouse x = Edge.oneBilled(10);
        x.pay(0, 0, 9);
        is("a cent is owed", x.pay(0, 0, 1), 0);
        is("one of a failed seller", failed().pay(0, 4, 1), 999);
        promise(11, "of several exceptions");
        Edge.refused(Edge.INDEX, "invoice, amount", () -> Edge.oneBilled(10),
                y -> y.pay(1, 0, 0));
        Edge.refused(Edge.INDEX, "party, amount", () -> Edge.oneBilled(10),
                y -> y.pay(0, 7, 0));
        Edge.refused(Edge.INDEX, "party, nothing is owed", PromiseEdgesTest::paid,
                y -> y.pay(0, -1, 1));
        Edge.refused(Edge.INDEX, "party, a 31st", () -> Edge.wronglyPaid(30),
                y -> y.pay(0, 7, 1));
        Edge.refusedEach(Edge.ARGUMENT, "amount, nothing is owed", PromiseEdgesTest::paid,
                (y, bad) -> y.pay(0, 4, bad), 0, 1000001);
        Edge.refusedEach(Edge.ARGUMENT, "amount, a 31st", () -> Edge.wronglyPaid(30),
                (y, bad) -> y.pay(0, 2, bad), 0, 1000001);
    }

    private static void lump() {
        promise(12, "buyer and party");
        Edge.refusedEach(Edge.INDEX, "lump of", () -> Edge.oneBilled(10),
                (x, bad) -> x.lump(bad, 0, 1), -1, 5, LEAST_INT, GREATEST_INT);
        Edge.refusedEach(Edge.INDEX, "lump to", () -> Edge.oneBilled(10),
                (x, bad) -> x.lump(0, bad, 1), -1, 7, LEAST_INT, GREATEST_INT);
        FactorHouse x = new FactorHouse();
        is("the greatest ones, in an empty house", x.lump(4, 6, 3), 0);
        is("the party has it", x.purse(6), 3);
        is("the buyer has not", x.buyer(4), -3);
        is("the least ones, in an empty house", x.lump(0, 0, 5), 0);
        is("the least party has it", x.purse(0), 5);
        promise(12, "amount, 1 to 1000000");
        FactorHouse y = Edge.oneBilled(1000000);
        is("the least", y.lump(0, 0, 1), 1);
        is("owed then", y.invoiceIs(0, 0), 999999);
        is("the greatest", y.lump(0, 0, 1000000), 1);
        is("owed at last", y.invoiceIs(0, 0), 0);
        Edge.refusedEach(Edge.ARGUMENT, "lump", () -> Edge.oneSold(10),
                (z, bad) -> z.lump(0, 4, bad), 0, -1, 1000001, LEAST_INT, GREATEST_INT);
        promise(12, "to how many invoices it is matched, rightly or wrongly");
        is("a full house, rightly", Edge.fullHouse().lump(0, 0, 80), 40);
        is("but for the last cent", Edge.fullHouse().lump(0, 0, 79), 40);
        is("but for the last one", Edge.fullHouse().lump(0, 0, 78), 39);
        is("wrongly", Edge.fullHouse().lump(0, 1, 5), 3);
        FactorHouse both = Edge.oneBilled(10);
        both.invoice(1, 0, 10, 1);
        is("one rightly and one wrongly", both.lump(0, 1, 15), 2);
        is("the first one wrongly", both.invoiceIs(0, 0), 10);
        is("the second one rightly", both.invoiceIs(1, 0), 5);
        is("one is mended", both.mend(), 1);
    }

    private static void lumpOfManyWrongOnes() {
        promise(12, "if there would be more than 30 wrong payments");
        is("30 at once", Edge.fullHouse().lump(0, 1, 60), 30);
        Edge.refused(Edge.STATE, "31 at once", Edge::fullHouse, x -> x.lump(0, 1, 61));
        Edge.refused(Edge.STATE, "40 at once", Edge::fullHouse, x -> x.lump(0, 1, 1000000));
        Edge.Start thirty = () -> {
            FactorHouse x = Edge.fullHouse();
            x.lump(0, 1, 60);
            return x;
        };
        Edge.refused(Edge.STATE, "one more", thirty, x -> x.lump(0, 1, 1));
        Edge.refused(Edge.STATE, "one more of which just so much is owed", thirty,
                x -> x.lump(0, 1, 2));
        is("rightly", thirty.make().lump(0, 0, 80), 40);
        is("when none is matched", thirty.make().lump(1, 1, 5), 0);
        FactorHouse x = Edge.wronglyPaid(28);
        x.invoice(1, 0, 5, 0);
        x.invoice(0, 0, 5, 0);
        is("two more and a right one", x.lump(0, 1, 1007), 3);
        Edge.refused(Edge.STATE, "two more behind 29, with a right one", () -> {
            FactorHouse y = Edge.wronglyPaid(29);
            y.invoice(1, 0, 5, 0);
            y.invoice(0, 0, 5, 0);
            return y;
        }, y -> y.lump(0, 1, 1007));
        promise(12, "of several exceptions");
        Edge.refused(Edge.INDEX, "buyer, amount", FactorHouse::new, y -> y.lump(5, 0, 0));
        Edge.refused(Edge.INDEX, "party, amount", FactorHouse::new, y -> y.lump(0, 7, 0));
        Edge.refused(Edge.INDEX, "party, too many", thirty, y -> y.lump(0, 7, 1));
        Edge.refusedEach(Edge.ARGUMENT, "amount, too many", thirty,
                (y, bad) -> y.lump(0, 1, bad), 0, 1000001);
    }

    private static void mend() {
        promise(13, "returns how many are mended by that");
        is("none in an empty house", new FactorHouse().mend(), 0);
        is("none without a wrong one", Edge.fullHouse().mend(), 0);
        for (int times = 1; times <= 30; times += 29) {
            FactorHouse x = Edge.wronglyPaid(times);
            is("all", x.mend(), times);
            is("owed", x.invoiceIs(0, 0), 1000 - times);
            is("none again", x.mend(), 0);
        }
        FactorHouse y = Edge.fullHouse();
        y.lump(0, 1, 60);
        is("30 of a lump sum", y.mend(), 30);
        is("the 30th invoice", y.invoiceIs(29, 0), 0);
        is("the 31st invoice", y.invoiceIs(30, 0), 2);
        FactorHouse z = drawnAll();
        z.invoice(1, 1, 20, 0);
        z.pay(1, 4, 20);
        is("none from a purse below 0", z.mend(), 0);
        is("that stays as it was", z.purse(4), -780);
        z.pay(1, 2, 5);
        is("one behind one that waits", z.mend(), 1);
        FactorHouse v = Edge.wronglyPaid(1);
        v.pay(0, 0, 1000);
        is("one when nothing is owed", v.mend(), 1);
        is("to the buyer", v.buyer(0), -1000);
        is("not to the seller", v.purse(0), 1000);
    }

    private static void purse() {
        promise(14, "party, 0 to 6");
        Edge.refusedEach(Edge.INDEX, "purse", FactorHouse::new, (x, bad) -> x.purse(bad),
                -1, 7, LEAST_INT, GREATEST_INT);
        for (int party = 0; party < 7; party++) {
            FactorHouse x = new FactorHouse();
            x.lump(0, party, 9);
            for (int other = 0; other < 7; other++) {
                is("purse " + other, x.purse(other), other == party ? 9 : 0);
            }
        }
        FactorHouse y = new FactorHouse();
        for (int i = 0; i < 500; i++) {
            y.lump(0, 3, 1000000);
        }
        is("500 of the greatest", y.purse(3), 500000000L);
        FactorHouse z = new FactorHouse();
        z.limit(4, 0, 100000000);
        z.factor(4, 100, 100, 9);
        for (int number = 0; number < 40; number++) {
            Edge.sold(z, 0, 1000000, 300);
        }
        z.draw(4, 0, 40000000);
        is("the least", z.purse(4), -40000000);
    }

    private static void buyer() {
        promise(15, "buyer");
        Edge.refusedEach(Edge.INDEX, "buyer", FactorHouse::new, (x, bad) -> x.buyer(bad),
                -1, 5, LEAST_INT, GREATEST_INT);
        for (int buyer = 0; buyer < 5; buyer++) {
            FactorHouse x = new FactorHouse();
            x.lump(buyer, 0, 9);
            for (int other = 0; other < 5; other++) {
                is("buyer " + other, x.buyer(other), other == buyer ? -9 : 0);
            }
        }
        FactorHouse y = new FactorHouse();
        for (int i = 0; i < 500; i++) {
            y.lump(4, 3, 1000000);
        }
        is("500 of the greatest", y.buyer(4), -500000000L);
        promise(15, "by pay, the buyer of the invoice");
        FactorHouse z = new FactorHouse();
        z.invoice(0, 3, 10, 0);
        z.pay(0, 0, 25);
        is("buyer 3", z.buyer(3), -25);
        is("buyer 0", z.buyer(0), 0);
        z.invoice(0, 2, 10, 0);
        z.pay(1, 1, 10);
        z.credit(1, 4);
        z.mend();
        is("what is left is buyer 2's", z.buyer(2), -6);
    }

    private static void balances() {
        promise(16, "whether all purses together are 0");
        Edge.is("an empty house", new FactorHouse().balances(), true);
        Edge.is("a full house", Edge.fullHouse().balances(), true);
        FactorHouse x = Edge.wide();
        for (int party = 0; party < 7; party++) {
            x.lump(party % 5, party, 1000000);
            Edge.is("after a lump sum to " + party, x.balances(), true);
        }
        FactorHouse y = drawnAll();
        Edge.is("after a draw", y.balances(), true);
        y.pass(100);
        Edge.is("after interest", y.balances(), true);
        y.pay(0, 1, 2000);
        Edge.is("after a wrong payment", y.balances(), true);
        y.credit(0, 500);
        Edge.is("after a credit note", y.balances(), true);
        y.mend();
        Edge.is("after it is mended in part", y.balances(), true);
        y.dispute(0, true);
        y.recourse(0);
        Edge.is("after recourse", y.balances(), true);
        FactorHouse z = silent(10);
        z.pay(0, 0, 20);
        Edge.is("after it is handed on", z.balances(), true);
    }

    private static void factor() {
        promise(17, "factor, 4 to 6");
        Edge.refusedEach(Edge.INDEX, "factor", () -> Edge.oneSold(1000),
                (x, bad) -> x.factor(bad, 50, 50, 5), 3, 0, -1, 7, LEAST_INT, GREATEST_INT);
        for (int factor = 4; factor < 7; factor++) {
            FactorHouse x = new FactorHouse();
            for (int of = 4; of < 7; of++) {
                x.invoice(0, 0, 100, 0);
                x.assign(of - 4, of, true);
                x.limit(of, 0, 1000);
            }
            x.factor(factor, 50, 100, 0);
            for (int of = 4; of < 7; of++) {
                is("base of " + of, x.base(of, 0), of == factor ? 50 : 80);
            }
        }
        promise(17, "rate, 0 to 100");
        Edge.refusedEach(Edge.ARGUMENT, "rate", () -> Edge.oneSold(1000),
                (x, bad) -> x.factor(4, bad, 50, 5), -1, 101, LEAST_INT, GREATEST_INT);
        is("the least", told(0, 100, 0).base(4, 0), 0);
        is("the greatest", told(100, 100, 0).base(4, 0), 1000);
        promise(17, "share, 1 to 100");
        Edge.refusedEach(Edge.ARGUMENT, "share", () -> Edge.oneSold(1000),
                (x, bad) -> x.factor(4, 50, bad, 5), 0, -1, 101, LEAST_INT, GREATEST_INT);
        is("the least", told(100, 1, 0).base(4, 0), 10);
        is("the greatest", told(100, 100, 0).base(4, 0), 1000);
        promise(17, "interest, 0 to 9");
        Edge.refusedEach(Edge.ARGUMENT, "interest", PromiseEdgesTest::drawnAll,
                (x, bad) -> x.factor(4, 50, 50, bad), -1, 10, LEAST_INT, GREATEST_INT);
        for (int interest = 0; interest <= 9; interest += 9) {
            FactorHouse x = Edge.oneSold(100000);
            x.factor(4, 100, 100, interest);
            x.draw(4, 0, 100000);
            x.pass(1);
            is("the interest " + interest, x.drawn(4, 0), 100000 + 10 * interest);
        }
        promise(17, "of several exceptions");
        Edge.refused(Edge.INDEX, "factor, rate", FactorHouse::new, x -> x.factor(3, 101, 1, 0));
        Edge.refused(Edge.INDEX, "factor, share", FactorHouse::new, x -> x.factor(7, 1, 0, 0));
        Edge.refused(Edge.INDEX, "factor, interest", FactorHouse::new,
                x -> x.factor(7, 1, 1, 10));
        FactorHouse x = drawnAll();
        x.factor(4, 0, 1, 0);
        is("what is drawn stays", x.drawn(4, 0), 800);
    }

    private static FactorHouse told(int rate, int share, int interest) {
        FactorHouse house = Edge.oneSold(1000);
        house.factor(4, rate, share, interest);
        return house;
    }

    private static void limit() {
        promise(18, "factor and buyer");
        Edge.refusedEach(Edge.INDEX, "limit of", () -> Edge.oneSold(1000),
                (x, bad) -> x.limit(bad, 0, 5), 3, 0, -1, 7, LEAST_INT, GREATEST_INT);
        Edge.refusedEach(Edge.INDEX, "limit for", () -> Edge.oneSold(1000),
                (x, bad) -> x.limit(4, bad, 5), -1, 5, LEAST_INT, GREATEST_INT);
        for (int factor = 4; factor < 7; factor++) {
            for (int buyer = 0; buyer < 5; buyer++) {
                FactorHouse x = new FactorHouse();
                x.invoice(0, buyer, 1000, 0);
                x.assign(0, factor, true);
                x.limit(factor, buyer, 100);
                is("limit(" + factor + ", " + buyer + ")", x.base(factor, 0), 80);
            }
        }
        FactorHouse other = Edge.oneBilled(1000);
        other.assign(0, 4, true);
        other.limit(5, 0, 100);
        other.limit(4, 1, 100);
        is("another factor's and another buyer's do nothing", other.base(4, 0), 0);
        promise(18, "cents, 0 to 100000000");
        Edge.refusedEach(Edge.ARGUMENT, "cents", () -> Edge.oneSold(1000),
                (x, bad) -> x.limit(4, 0, bad), -1, 100000001, LEAST_INT, GREATEST_INT);
        FactorHouse x = Edge.oneSold(1000);
        x.limit(4, 0, 0);
        is("the least", x.base(4, 0), 0);
        x.limit(4, 0, 1);
        is("1, by 80", x.base(4, 0), 0);
        x.limit(4, 0, 2);
        is("2, by 80", x.base(4, 0), 1);
        x.limit(4, 0, 100000000);
        is("the greatest", x.base(4, 0), 800);
        promise(18, "of several exceptions");
        Edge.refused(Edge.INDEX, "factor, cents", FactorHouse::new, y -> y.limit(3, 0, -1));
        Edge.refused(Edge.INDEX, "buyer, cents", FactorHouse::new,
                y -> y.limit(4, 5, 100000001));
    }

    private static void base() {
        promise(19, "factor and seller");
        Edge.refusedEach(Edge.INDEX, "base of", () -> Edge.oneSold(1000),
                (x, bad) -> x.base(bad, 0), 3, 0, -1, 7, LEAST_INT, GREATEST_INT);
        Edge.refusedEach(Edge.INDEX, "base for", () -> Edge.oneSold(1000),
                (x, bad) -> x.base(4, bad), -1, 4, LEAST_INT, GREATEST_INT);
        for (int factor = 4; factor < 7; factor++) {
            for (int seller = 0; seller < 4; seller++) {
                FactorHouse x = new FactorHouse();
                x.limit(factor, 4, 5000);
                x.invoice(seller, 4, 1000, 0);
                x.assign(0, factor, false);
                is("base(" + factor + ", " + seller + ")", x.base(factor, seller), 800);
                is("another seller's", x.base(factor, (seller + 1) % 4), 0);
                is("another factor's", x.base(4 + (factor - 3) % 3, seller), 0);
            }
        }
        promise(19, "Returns the base");
        is("an empty house", Edge.wide().base(4, 0), 0);
        is("a full house", fullPool().base(4, 0), 3200);
        FactorHouse x = drawnAll();
        is("what is drawn is in it", x.base(4, 0), 800);
        x.credit(0, 1000);
        is("0 at least", x.base(4, 0), 0);
    }

    private static void drawn() {
        promise(20, "factor and seller");
        Edge.refusedEach(Edge.INDEX, "drawn from", PromiseEdgesTest::drawnAll,
                (x, bad) -> x.drawn(bad, 0), 3, 0, -1, 7, LEAST_INT, GREATEST_INT);
        Edge.refusedEach(Edge.INDEX, "drawn by", PromiseEdgesTest::drawnAll,
                (x, bad) -> x.drawn(4, bad), -1, 4, LEAST_INT, GREATEST_INT);
        for (int factor = 4; factor < 7; factor++) {
            for (int seller = 0; seller < 4; seller++) {
                FactorHouse x = new FactorHouse();
                x.limit(factor, 0, 5000);
                x.invoice(seller, 0, 1000, 0);
                x.assign(0, factor, true);
                is("at first", x.drawn(factor, seller), 0);
                x.draw(factor, seller, 7);
                is("drawn(" + factor + ", " + seller + ")", x.drawn(factor, seller), 7);
                is("another seller's", x.drawn(factor, (seller + 1) % 4), 0);
                is("another factor's", x.drawn(4 + (factor - 3) % 3, seller), 0);
            }
        }
        promise(20, "after the longest time");
        FactorHouse x = Edge.oneSold(1000000);
        x.factor(4, 100, 100, 9);
        x.draw(4, 0, 1000000);
        long due = 1000000;
        for (int day = 0; day < 3000; day++) {
            due += due * 9 / 10000;
        }
        is("3000 days of the greatest interest", Edge.passed(x, 3000).drawn(4, 0), due);
        FactorHouse y = fullPool();
        y.factor(4, 100, 100, 9);
        is("0 stays 0", Edge.passed(y, 3000).drawn(4, 0), 0);
    }

    private static void draw() {
        promise(21, "factor and seller");
        Edge.refusedEach(Edge.INDEX, "draw from", () -> Edge.oneSold(1000),
                (x, bad) -> x.draw(bad, 0, 1), 3, 0, -1, 7, LEAST_INT, GREATEST_INT);
        Edge.refusedEach(Edge.INDEX, "draw by", () -> Edge.oneSold(1000),
                (x, bad) -> x.draw(4, bad, 1), -1, 4, LEAST_INT, GREATEST_INT);
        promise(21, "amount, 1 to what can be drawn");
        is("the least", Edge.oneSold(1000).draw(4, 0, 1), 1);
        is("the greatest", Edge.oneSold(1000).draw(4, 0, 800), 800);
        Edge.refusedEach(Edge.ARGUMENT, "draw", () -> Edge.oneSold(1000),
                (x, bad) -> x.draw(4, 0, bad), 0, -1, 801, LEAST_INT, GREATEST_INT);
        Edge.refusedEach(Edge.ARGUMENT, "draw behind all", PromiseEdgesTest::drawnAll,
                (x, bad) -> x.draw(4, 0, bad), 0, 1, -1);
        Edge.refusedEach(Edge.ARGUMENT, "in an empty house", FactorHouse::new,
                (x, bad) -> x.draw(4, 0, bad), 0, 1, -1);
        FactorHouse x = Edge.oneSold(1000);
        is("a part", x.draw(4, 0, 300), 300);
        is("the other part", x.draw(4, 0, 500), 800);
        FactorHouse y = drawnAll();
        y.pay(0, 4, 800);
        is("a base of 160 after it is paid back", y.draw(4, 0, 160), 160);
        FactorHouse z = fullPool();
        is("all of a full house", z.draw(4, 0, 3200), 3200);
        promise(21, "if the seller failed");
        Edge.refusedEach(Edge.STATE, "in range", PromiseEdgesTest::failed,
                (v, bad) -> v.draw(4, 0, bad), 1, 800);
        FactorHouse w = Edge.oneSold(1000);
        w.fail(1);
        is("another one failed", w.draw(4, 0, 800), 800);
        promise(21, "of several exceptions");
        Edge.refused(Edge.INDEX, "factor, amount", () -> Edge.oneSold(1000),
                v -> v.draw(3, 0, 0));
        Edge.refused(Edge.INDEX, "seller, amount", () -> Edge.oneSold(1000),
                v -> v.draw(4, 4, 0));
        Edge.refused(Edge.INDEX, "factor, failed", PromiseEdgesTest::failed,
                v -> v.draw(7, 0, 1));
        Edge.refusedEach(Edge.ARGUMENT, "amount, failed", PromiseEdgesTest::failed,
                (v, bad) -> v.draw(4, 0, bad), 0, 801);
    }

    private static FactorHouse disputed(FactorHouse house) {
        house.dispute(0, true);
        return house;
    }

    private static void recourse() {
        promise(22, "invoice");
        Edge.refused(Edge.INDEX, "in an empty house", FactorHouse::new, x -> x.recourse(0));
        Edge.refusedEach(Edge.INDEX, "recourse", () -> disputed(Edge.oneSold(10)),
                (x, bad) -> x.recourse(bad), 1, -1, 40, LEAST_INT, GREATEST_INT);
        FactorHouse full = fullPool();
        full.draw(4, 0, 3200);
        full.dispute(39, true);
        is("the last one of a full house", full.recourse(39), 80);
        promise(22, "if its owner is no factor, or it is neither disputed nor due for so long");
        Edge.refused(Edge.STATE, "no factor", () -> disputed(Edge.oneBilled(10)),
                x -> x.recourse(0));
        Edge.refused(Edge.STATE, "twice", () -> {
            FactorHouse x = disputed(Edge.oneSold(10));
            x.recourse(0);
            return x;
        }, x -> x.recourse(0));
        Edge.refused(Edge.STATE, "neither", () -> Edge.oneSold(10), x -> x.recourse(0));
        Edge.refused(Edge.STATE, "old, but 90 days", () -> Edge.passed(Edge.oneSold(10), 90),
                x -> x.recourse(0));
        is("91 days", Edge.passed(Edge.oneSold(10), 91).recourse(0), 0);
        is("disputed", disputed(Edge.oneSold(10)).recourse(0), 0);
        is("both", disputed(Edge.passed(Edge.oneSold(10), 91)).recourse(0), 0);
        is("when nothing is owed", disputed(paid()).recourse(0), 0);
        recourseMoves();
    }

    private static void recourseMoves() {
        promise(22, "Returns what the seller pays by that");
        FactorHouse x = disputed(drawnAll());
        is("all that is drawn", x.recourse(0), 800);
        is("nothing is drawn then", x.drawn(4, 0), 0);
        is("the seller's purse", x.purse(0), 0);
        is("the factor's purse", x.purse(4), 0);
        is("the owner", x.invoiceIs(0, 1), 0);
        FactorHouse y = drawnAll();
        Edge.sold(y, 0, 1001, 0);
        disputed(y);
        is("just the base is drawn", y.recourse(0), 0);
        FactorHouse z = Edge.oneSold(1000);
        z.pass(1);
        Edge.sold(z, 1, 998, 0);
        z.draw(4, 0, 799);
        disputed(z);
        is("by a base of 798", z.recourse(0), 1);
        FactorHouse v = drawnAll();
        v.fail(0);
        disputed(v);
        is("also of one who failed", v.recourse(0), 800);
        FactorHouse w = disputed(silent(10));
        w.assign(0, 5, true);
        w.assign(0, 6, false);
        w.recourse(0);
        is("the owner alone gives it back", w.invoiceIs(0, 1), 4);
        FactorHouse u = drawnAll();
        u.invoice(1, 0, 1000, 0);
        u.assign(1, 4, true);
        u.dispute(1, true);
        is("of its seller, who has drawn nothing", u.recourse(1), 0);
        is("another seller's stays drawn", u.drawn(4, 0), 800);
    }

    private static void fail() {
        promise(23, "seller");
        Edge.refusedEach(Edge.INDEX, "fail", FactorHouse::new, (x, bad) -> x.fail(bad),
                -1, 4, 6, LEAST_INT, GREATEST_INT);
        for (int seller = 0; seller < 4; seller++) {
            FactorHouse x = new FactorHouse();
            is("in an empty house", x.fail(seller), 0);
            int failed = seller;
            Edge.refused(Edge.STATE, "an invoice of " + seller, () -> {
                FactorHouse y = new FactorHouse();
                y.fail(failed);
                return y;
            }, y -> y.invoice(failed, 0, 1, 0));
            is("the next one's", x.invoice((seller + 1) % 4, 0, 1, 0), 0);
        }
        promise(23, "if he failed");
        Edge.refused(Edge.STATE, "twice", PromiseEdgesTest::failed, x -> x.fail(0));
        FactorHouse all = new FactorHouse();
        for (int seller = 0; seller < 4; seller++) {
            is("each once", all.fail(seller), 0);
        }
        promise(23, "how many assignments are not there any more by that");
        is("40 of a full house", fullSilent().fail(0), 40);
        is("none of another one's", fullSilent().fail(1), 0);
        FactorHouse x = fullSilent();
        x.notice(0, 4);
        x.register(39, 4);
        x.giveBack(5, 4);
        is("but for a notice, a register, and one given back", x.fail(0), 37);
        is("a notice", x.invoiceIs(0, 1), 4);
        is("a register", x.invoiceIs(39, 1), 4);
        is("a silent one", x.invoiceIs(38, 1), 0);
        FactorHouse y = silent(1000);
        y.limit(4, 0, 1000);
        y.draw(4, 0, 800);
        is("one by which all is drawn", y.fail(0), 1);
        is("it stays drawn", y.drawn(4, 0), 800);
        is("no base is left", y.base(4, 0), 0);
    }

    private static void pass() {
        promise(24, "days, 1 to 100");
        Edge.refusedEach(Edge.ARGUMENT, "pass", PromiseEdgesTest::drawnAll,
                (x, bad) -> x.pass(bad), 0, -1, 101, LEAST_INT, GREATEST_INT);
        is("the least", new FactorHouse().pass(1), 1);
        is("the greatest", new FactorHouse().pass(100), 100);
        promise(24, "if it would be above 3000");
        Edge.Start before = () -> Edge.passed(new FactorHouse(), 2901);
        is("just 3000", before.make().pass(99), 3000);
        Edge.refused(Edge.STATE, "3001", before, x -> x.pass(100));
        Edge.refused(Edge.STATE, "3001 from 3000", () -> Edge.passed(drawnAll(), 3000),
                x -> x.pass(1));
        is("30 times the greatest", Edge.passed(new FactorHouse(), 2900).pass(100), 3000);
        promise(24, "of several exceptions");
        Edge.refusedEach(Edge.ARGUMENT, "days, above 3000",
                () -> Edge.passed(new FactorHouse(), 3000), (x, bad) -> x.pass(bad),
                101, 0, -1, GREATEST_INT, LEAST_INT);
        promise(24, "Returns today");
        FactorHouse x = Edge.fullHouse();
        is("3", x.pass(3), 3);
        is("10", x.pass(7), 10);
        FactorHouse y = Edge.oneSold(100000);
        y.draw(4, 0, 10000);
        y.pass(2);
        FactorHouse z = Edge.oneSold(100000);
        z.draw(4, 0, 10000);
        z.pass(1);
        z.pass(1);
        is("two days at once are two days", y.drawn(4, 0), z.drawn(4, 0));
        is("of interest", y.drawn(4, 0), 10006);
    }

    private static void poolOne() {
        promise(25, "invoice");
        Edge.refused(Edge.INDEX, "in an empty house", FactorHouse::new, x -> x.pool(0));
        Edge.refusedEach(Edge.INDEX, "pool", () -> Edge.oneSold(10), (x, bad) -> x.pool(bad),
                1, -1, 40, LEAST_INT, GREATEST_INT);
        promise(25, "if it counts for none, or was put in ever");
        Edge.refused(Edge.STATE, "a seller's", () -> Edge.oneBilled(10), x -> x.pool(0));
        Edge.refused(Edge.STATE, "a paid one", PromiseEdgesTest::paid, x -> x.pool(0));
        Edge.refused(Edge.STATE, "a disputed one", () -> disputed(Edge.oneSold(10)),
                x -> x.pool(0));
        Edge.refused(Edge.STATE, "an old one", () -> Edge.passed(Edge.oneSold(10), 61),
                x -> x.pool(0));
        is("60 days", Edge.passed(Edge.oneSold(10), 60).pool(0), 1);
        Edge.Start mostlyOld = () -> {
            FactorHouse x = Edge.oneSold(11);
            Edge.passed(x, 61);
            Edge.sold(x, 0, 10, 0);
            return x;
        };
        Edge.refused(Edge.STATE, "one of a buyer who owes mostly old ones", mostlyOld,
                x -> x.pool(1));
        FactorHouse half = mostlyOld.make();
        half.credit(0, 1);
        is("just a half is old", half.pool(1), 1);
        Edge.refused(Edge.STATE, "one that is in it", () -> {
            FactorHouse x = Edge.oneSold(10);
            x.pool(0);
            return x;
        }, x -> x.pool(0));
        is("a failed seller's", failed().pool(0), 1);
        is("a silent one", silent(10).pool(0), 1);
        poolCounts();
    }

    private static void poolCounts() {
        promise(25, "Returns how many are in it then");
        FactorHouse x = new FactorHouse();
        for (int number = 0; number < 40; number++) {
            x.invoice(number % 4, number % 5, 10, 0);
            x.assign(number, 4 + number % 3, number % 2 == 0);
            is("in it", x.pool(number), number + 1);
        }
        is("all stay", x.look(), 0);
        FactorHouse y = Edge.oneSold(10);
        y.pool(0);
        Edge.sold(y, 1, 10, 0);
        y.credit(0, 10);
        is("before a look two are in it", y.pool(1), 2);
        FactorHouse z = Edge.oneSold(10);
        z.pool(0);
        Edge.sold(z, 1, 10, 0);
        z.credit(0, 10);
        z.look();
        is("after a look one is in it", z.pool(1), 1);
    }

    private static void look() {
        promise(26, "returns how many are taken out");
        is("of an empty house", new FactorHouse().look(), 0);
        is("of an empty pool", Edge.fullHouse().look(), 0);
        is("of a full pool none", fullPool().look(), 0);
        FactorHouse x = fullPool();
        x.dispute(39, true);
        is("the last one of a full pool", x.look(), 1);
        FactorHouse y = Edge.passed(fullPool(), 61);
        is("a full pool", y.look(), 40);
        is("none again", y.look(), 0);
        FactorHouse z = Edge.oneSold(10);
        disputed(z);
        is("one that was not put in", z.look(), 0);
        FactorHouse v = Edge.oneSold(11);
        v.pool(Edge.sold(v, 0, 10, 300));
        Edge.passed(v, 61);
        is("one whose buyer owes mostly old ones", v.look(), 1);
        FactorHouse w = Edge.oneSold(10);
        w.pool(Edge.sold(w, 0, 10, 300));
        Edge.passed(w, 61);
        is("just a half is old", w.look(), 0);
    }

    private static void financed() {
        promise(27, "with how much the pool is financed");
        is("of an empty house", new FactorHouse().financed(), 0);
        is("of an empty pool", Edge.fullHouse().financed(), 0);
        is("of a full pool", fullPool().financed(), 3600);
        FactorHouse x = fullPool();
        for (int number = 0; number < 4; number++) {
            x.dispute(number, true);
        }
        is("before a look", x.financed(), 3600);
        x.look();
        is("400 bad of 4000 are not more", x.financed(), 3240);
        x.dispute(4, true);
        x.look();
        is("500 bad of 4000 are more", x.financed(), 0);
        FactorHouse y = fullPool();
        y.lump(0, 4, 4000);
        is("when all is paid", y.financed(), 0);
        y.look();
        is("when all is out", y.financed(), 0);
        FactorHouse z = fullPool();
        z.lump(0, 4, 3999);
        is("a cent by 90", z.financed(), 0);
        FactorHouse v = Edge.oneSold(10);
        is("what was not put in", v.financed(), 0);
    }
}
