/** For each sentence of 'Terms' that names a boundary, a test of its own, in the document's order. */
public final class TermsEdgesTest {
    private TermsEdgesTest() {
    }

    public static void main(String[] args) {
        use();
        whoThereIs();
        assignments();
        payments();
        wrongPayments();
        advances();
        repayments();
        disputesAndRecourse();
        failure();
        pool();
        refusals();
        Check.end();
    }

    private static void is(String what, long got, long want) {
        Edge.is(what, got, want);
    }

    // ---- What it is

    private static void use() {
        callsByPayments();
        callsByLumps();
        callsWithMendedOnes();
    }

    private static void callsByPayments() {
        Edge.sentence("used for at most 512 calls: the last one answers, too");
        FactorHouse x = Edge.oneBilled(1000);
        for (int call = 2; call <= 511; call++) {
            x.pay(0, 0, 1);
        }
        is("the 512th call", x.owedAnew(0), 490);
    }

    private static void callsByLumps() {
        Edge.sentence("used for at most 512 calls: with the most that lump sums are matched to");
        FactorHouse x = Edge.fullHouse();
        for (int i = 0; i < 470; i++) {
            x.lump(0, 0, 3);
        }
        is("the 511th call", x.owedAnew(39), 0);
        is("the 512th call", x.owedAnew(0), 0);
        FactorHouse y = Edge.fullHouse();
        is("39 and a part of one", y.lump(0, 0, 79), 40);
        is("a part is left", y.owedAnew(39), 1);
    }

    private static void callsWithMendedOnes() {
        Edge.sentence("used for at most 512 calls: with 30 that are mended by one of them");
        FactorHouse x = Edge.wronglyPaid(30);
        x.mend();
        for (int call = 33; call <= 511; call++) {
            x.pay(0, 0, 1);
        }
        is("the 512th call", x.owedAnew(0), 1000 - 30 - 479);
    }

    // ---- Who there is, invoices

    private static void whoThereIs() {
        firstDay();
        lastDay();
        sellers();
        factors();
        buyers();
        pursesAtFirst();
        pursesBelowZero();
        numbers();
        amounts();
        daysDue();
        creditNotes();
    }

    private static void firstDay() {
        Edge.sentence("Days are numbered from 0, today is 0 at first");
        is("due today", Edge.oneBilled(5).invoiceIs(0, 3), 0);
        is("tomorrow", new FactorHouse().pass(1), 1);
    }

    private static void lastDay() {
        Edge.sentence("at most 3000");
        is("the last day", Edge.passed(new FactorHouse(), 2999).pass(1), 3000);
        Edge.refused(Edge.STATE, "the day behind it", () -> Edge.passed(new FactorHouse(), 3000),
                x -> x.pass(1));
    }

    private static void sellers() {
        Edge.sentence("the parties 0 to 3, who are sellers");
        for (int seller = 0; seller < 4; seller++) {
            FactorHouse x = new FactorHouse();
            x.invoice(seller, 0, 5, 0);
            is("seller " + seller, x.invoiceIs(0, 1), seller);
        }
        Edge.refusedEach(Edge.INDEX, "a seller", FactorHouse::new,
                (x, bad) -> x.invoice(bad, 0, 5, 0), -1, 4, 6);
        Edge.refusedEach(Edge.INDEX, "a seller as a factor", () -> Edge.oneBilled(5),
                (x, bad) -> x.assign(0, bad, true), 0, 3);
    }

    private static void factors() {
        Edge.sentence("and 4 to 6, who are factors");
        for (int factor = 4; factor < 7; factor++) {
            is("factor " + factor, Edge.oneBilled(5).assign(0, factor, false), factor);
        }
        Edge.refusedEach(Edge.INDEX, "a factor", () -> Edge.oneBilled(5),
                (x, bad) -> x.assign(0, bad, false), 3, 7, -1);
        Edge.refusedEach(Edge.INDEX, "a factor as a seller", FactorHouse::new,
                (x, bad) -> x.fail(bad), 4, 5, 6);
    }

    private static void buyers() {
        Edge.sentence("and the buyers 0 to 4");
        for (int buyer = 0; buyer < 5; buyer++) {
            FactorHouse x = new FactorHouse();
            x.invoice(0, buyer, 5, 0);
            is("a lump sum of buyer " + buyer, x.lump(buyer, 0, 5), 1);
        }
        Edge.refusedEach(Edge.INDEX, "a buyer", FactorHouse::new,
                (x, bad) -> x.invoice(0, bad, 5, 0), -1, 5);
    }

    private static void pursesAtFirst() {
        Edge.sentence("each with a purse, in cents, 0 at first");
        FactorHouse x = new FactorHouse();
        for (int party = 0; party < 7; party++) {
            is("party " + party, x.purse(party), 0);
        }
        for (int buyer = 0; buyer < 5; buyer++) {
            is("buyer " + buyer, x.buyer(buyer), 0);
        }
    }

    private static void pursesBelowZero() {
        Edge.sentence("that may be below 0");
        FactorHouse x = new FactorHouse();
        x.lump(4, 0, 1);
        is("a buyer's", x.buyer(4), -1);
        x.lump(4, 0, 1000000);
        is("a buyer's, further", x.buyer(4), -1000001);
        FactorHouse y = Edge.oneSold(100);
        y.draw(4, 0, 80);
        is("a factor's", y.purse(4), -80);
    }

    private static void numbers() {
        Edge.sentence("Invoices are numbered from 0, at most 40");
        FactorHouse x = new FactorHouse();
        for (int number = 0; number < 40; number++) {
            is("a number", x.invoice(0, 0, 2, number), number);
        }
        is("the last one's day", x.invoiceIs(39, 3), 39);
        Edge.refused(Edge.STATE, "one more", Edge::fullHouse, y -> y.invoice(1, 1, 2, 0));
        Edge.refused(Edge.INDEX, "the number 40", Edge::fullHouse, y -> y.invoiceIs(40, 0));
        Edge.refused(Edge.INDEX, "the number -1", Edge::fullHouse, y -> y.invoiceIs(-1, 0));
        Edge.refused(Edge.STATE, "one more when all is paid", () -> paid(Edge.fullHouse()),
                y -> y.invoice(1, 1, 2, 0));
    }

    private static FactorHouse paid(FactorHouse house) {
        house.lump(0, 0, 80);
        return house;
    }

    private static void amounts() {
        Edge.sentence("an amount, 1 to 1000000");
        is("the least", Edge.oneBilled(1).invoiceIs(0, 0), 1);
        is("the greatest", Edge.oneBilled(1000000).invoiceIs(0, 0), 1000000);
        Edge.refusedEach(Edge.ARGUMENT, "an amount", FactorHouse::new,
                (x, bad) -> x.invoice(0, 0, bad, 0), 0, -1, 1000001);
    }

    private static void daysDue() {
        Edge.sentence("and a day on which it is due, today to 300 days on");
        FactorHouse x = Edge.passed(new FactorHouse(), 7);
        x.invoice(0, 0, 5, 0);
        x.invoice(0, 0, 5, 300);
        is("today", x.invoiceIs(0, 3), 7);
        is("300 days on", x.invoiceIs(1, 3), 307);
        Edge.refusedEach(Edge.ARGUMENT, "days", FactorHouse::new,
                (y, bad) -> y.invoice(0, 0, 5, bad), -1, 301);
        FactorHouse z = Edge.passed(new FactorHouse(), 3000);
        z.invoice(0, 0, 5, 300);
        is("beyond the last day", z.invoiceIs(0, 3), 3300);
    }

    private static void creditNotes() {
        Edge.sentence("A credit note makes what is owed by an invoice less");
        is("by the least", Edge.oneBilled(10).credit(0, 1), 9);
        is("by all", Edge.oneBilled(10).credit(0, 10), 0);
        FactorHouse x = Edge.oneSold(10);
        x.draw(4, 0, 8);
        x.credit(0, 10);
        is("it is no payment: what is drawn stays", x.drawn(4, 0), 8);
        is("it is no payment: the purse stays", x.buyer(0), 0);
    }

    // ---- Assignments

    private static void assignments() {
        eachFactorOnce();
        onlyWhatIsOwed();
        noticeOnce();
        registerOnce();
        ownerByNotice();
        ownerByRegister();
        ownerByAssignment();
        ownerWithoutAny();
        firstByCalls();
        givenBack();
        freeByTheFirstNotice();
    }

    private static void eachFactorOnce() {
        Edge.sentence("A seller can assign an invoice to each factor once");
        FactorHouse x = Edge.oneBilled(5);
        is("to 4", x.assign(0, 4, false), 4);
        is("to 5", x.assign(0, 5, false), 4);
        is("to 6", x.assign(0, 6, false), 4);
        for (int factor = 4; factor < 7; factor++) {
            int twice = factor;
            Edge.refused(Edge.STATE, "twice to " + factor, () -> assignedToAll(Edge.oneBilled(5)),
                    y -> y.assign(0, twice, true));
        }
        FactorHouse z = Edge.oneBilled(5);
        z.invoice(0, 0, 5, 0);
        z.assign(0, 4, false);
        is("another invoice to the same one", z.assign(1, 4, false), 4);
    }

    private static FactorHouse assignedToAll(FactorHouse house) {
        for (int factor = 4; factor < 7; factor++) {
            house.assign(0, factor, false);
        }
        return house;
    }

    private static void onlyWhatIsOwed() {
        Edge.sentence("as long as something is owed by it");
        FactorHouse x = Edge.oneBilled(5);
        x.credit(0, 4);
        is("a cent is owed", x.assign(0, 4, false), 4);
        Edge.refused(Edge.STATE, "nothing is owed by a credit note", () -> {
            FactorHouse y = Edge.oneBilled(5);
            y.credit(0, 5);
            return y;
        }, y -> y.assign(0, 4, false));
        Edge.refused(Edge.STATE, "nothing is owed by a payment", () -> {
            FactorHouse y = Edge.oneBilled(5);
            y.pay(0, 0, 5);
            return y;
        }, y -> y.assign(0, 4, true));
        FactorHouse z = Edge.oneBilled(5);
        z.pay(0, 1, 5);
        is("a wrong payment leaves it owed", z.assign(0, 4, false), 4);
    }

    private static void noticeOnce() {
        Edge.sentence("told to the buyer by a notice, once");
        FactorHouse x = silent(4);
        is("once", x.notice(0, 4), 4);
        Edge.refused(Edge.STATE, "twice", () -> {
            FactorHouse y = silent(4);
            y.notice(0, 4);
            return y;
        }, y -> y.notice(0, 4));
        Edge.refused(Edge.STATE, "behind one at once", () -> Edge.oneSold(5),
                y -> y.notice(0, 4));
    }

    private static FactorHouse silent(int factor) {
        FactorHouse house = Edge.oneBilled(5);
        house.assign(0, factor, false);
        return house;
    }

    private static void registerOnce() {
        Edge.sentence("and it can be registered, once");
        FactorHouse x = silent(4);
        is("once", x.register(0, 4), 4);
        Edge.refused(Edge.STATE, "twice", () -> {
            FactorHouse y = silent(4);
            y.register(0, 4);
            return y;
        }, y -> y.register(0, 4));
        FactorHouse z = silent(4);
        z.notice(0, 4);
        is("a notice is no register", z.register(0, 4), 4);
        FactorHouse v = silent(4);
        v.register(0, 4);
        is("a register is no notice", v.invoiceIs(0, 2), 0);
        is("so it can be told", v.notice(0, 4), 4);
    }

    private static void ownerByNotice() {
        Edge.sentence("the one whose notice came first");
        FactorHouse x = assignedToAll(Edge.oneBilled(5));
        x.register(0, 4);
        is("a notice is ahead of the first register and assignment", x.notice(0, 6), 6);
        is("a second notice is behind, though assigned before", x.notice(0, 5), 6);
        is("a third one, too, though registered", x.notice(0, 4), 6);
    }

    private static void ownerByRegister() {
        Edge.sentence("if there is none with a notice, the one who registered first");
        FactorHouse x = assignedToAll(Edge.oneBilled(5));
        is("a register is ahead of the first assignment", x.register(0, 6), 6);
        is("a second register is behind, though assigned before", x.register(0, 5), 6);
        is("a third one, too", x.register(0, 4), 6);
    }

    private static void ownerByAssignment() {
        Edge.sentence("if there is none of these either, the one to whom it was assigned first");
        for (int first = 4; first < 7; first++) {
            FactorHouse x = silent(first);
            for (int factor = 6; factor >= 4; factor--) {
                if (factor != first) {
                    is("behind " + first, x.assign(0, factor, false), first);
                }
            }
        }
    }

    private static void ownerWithoutAny() {
        Edge.sentence("without any the seller");
        is("at first", Edge.oneBilled(5).invoiceIs(0, 1), 0);
        FactorHouse x = new FactorHouse();
        x.invoice(3, 0, 5, 0);
        x.assign(0, 6, true);
        is("after the last one was given back", x.giveBack(0, 6), 3);
    }

    private static void firstByCalls() {
        Edge.sentence("What comes first is by the order of calls");
        for (int first = 4; first < 7; first++) {
            for (int second = 4; second < 7; second++) {
                if (first != second) {
                    FactorHouse x = assignedToAll(Edge.oneBilled(5));
                    x.notice(0, first);
                    x.notice(0, second);
                    is("notices", x.invoiceIs(0, 1), first);
                    is("the next notice", x.giveBack(0, first), second);
                    FactorHouse y = assignedToAll(Edge.oneBilled(5));
                    y.register(0, first);
                    y.register(0, second);
                    is("registers", y.invoiceIs(0, 1), first);
                    is("the next register", y.giveBack(0, first), second);
                }
            }
        }
        FactorHouse z = silent(4);
        z.assign(0, 5, true);
        is("a notice at once is ahead of a later one", z.notice(0, 4), 5);
        FactorHouse v = silent(4);
        v.notice(0, 4);
        is("a notice at once is behind an earlier one", v.assign(0, 5, true), 4);
    }

    private static void givenBack() {
        Edge.sentence("it is not there any more, and cannot be made again");
        Edge.Start start = () -> {
            FactorHouse y = Edge.oneSold(5);
            y.register(0, 4);
            y.giveBack(0, 4);
            return y;
        };
        is("its notice is gone", start.make().invoiceIs(0, 2), 0);
        is("its register is gone", start.make().invoiceIs(0, 1), 0);
        Edge.refused(Edge.STATE, "a notice", start, y -> y.notice(0, 4));
        Edge.refused(Edge.STATE, "a register", start, y -> y.register(0, 4));
        Edge.refused(Edge.STATE, "given back twice", start, y -> y.giveBack(0, 4));
        Edge.refused(Edge.STATE, "made again", start, y -> y.assign(0, 4, false));
        is("made to another one", start.make().assign(0, 5, false), 5);
    }

    private static void freeByTheFirstNotice() {
        Edge.sentence("the factor whose notice came first; without one the seller");
        FactorHouse x = assignedToAll(Edge.oneBilled(5));
        x.register(0, 5);
        is("without one", x.invoiceIs(0, 2), 0);
        x.notice(0, 6);
        x.notice(0, 4);
        is("the first of two", x.invoiceIs(0, 2), 6);
        x.giveBack(0, 6);
        is("the other one", x.invoiceIs(0, 2), 4);
        x.giveBack(0, 4);
        is("without one again", x.invoiceIs(0, 2), 0);
        is("though a factor is the owner", x.invoiceIs(0, 1), 5);
    }

    // ---- Payments

    private static void payments() {
        bothPurses();
        atMostWhatIsOwed();
        toOneThatIsTold();
        justSoMuch();
        lowestOfThem();
        byDaysDue();
        byNumbers();
        asFarAsItGoes();
        onlyWithSomethingOwed();
        unmatched();
        handedOn();
    }

    private static void bothPurses() {
        Edge.sentence("his purse is less by it, that of the party more");
        for (int party = 0; party < 7; party++) {
            FactorHouse x = Edge.oneBilled(10);
            x.pay(0, party, 1000000);
            is("the buyer's", x.buyer(0), -1000000);
            is("the party's", x.purse(party), 1000000);
        }
    }

    private static void atMostWhatIsOwed() {
        Edge.sentence("to each at most that");
        is("a cent less", Edge.oneBilled(10).pay(0, 0, 9), 1);
        is("just that", Edge.oneBilled(10).pay(0, 0, 10), 0);
        FactorHouse x = Edge.oneBilled(10);
        is("a cent more", x.pay(0, 0, 11), 0);
        is("found anew", x.owedAnew(0), 0);
        FactorHouse y = Edge.oneBilled(10);
        y.pay(0, 1, 11);
        y.mend();
        is("a wrong payment is at most that", y.purse(1), 1);
        FactorHouse z = Edge.oneBilled(10);
        z.credit(0, 4);
        is("by what is owed, not by the amount", z.pay(0, 0, 8), 0);
        is("found anew, too", z.owedAnew(0), 0);
    }

    private static void toOneThatIsTold() {
        Edge.sentence("to one that is told");
        FactorHouse x = Edge.oneBilled(10);
        x.invoice(0, 0, 5, 0);
        x.pay(0, 0, 15);
        is("not to another one", x.invoiceIs(1, 0), 5);
        x.pay(1, 0, 1);
        is("to the second one", x.invoiceIs(1, 0), 4);
    }

    private static FactorHouse threeDue() {
        FactorHouse house = new FactorHouse();
        house.invoice(0, 0, 10, 5);
        house.invoice(0, 0, 20, 3);
        house.invoice(0, 0, 20, 3);
        return house;
    }

    private static void justSoMuch() {
        Edge.sentence("if there is one of which just so much is owed");
        FactorHouse x = threeDue();
        is("just so much", x.lump(0, 0, 10), 1);
        is("to that one", x.invoiceIs(0, 0), 0);
        FactorHouse y = threeDue();
        y.lump(0, 0, 9);
        is("a cent less is not", y.invoiceIs(0, 0), 10);
        FactorHouse z = threeDue();
        z.lump(0, 0, 11);
        is("a cent more is not", z.invoiceIs(0, 0), 10);
        FactorHouse v = threeDue();
        v.pay(0, 0, 3);
        v.lump(0, 0, 7);
        is("by what is owed, not by the amount", v.invoiceIs(0, 0), 0);
        FactorHouse w = threeDue();
        w.invoice(0, 1, 7, 0);
        w.lump(0, 0, 7);
        is("not by another buyer's", w.invoiceIs(1, 0), 13);
    }

    private static void lowestOfThem() {
        Edge.sentence("to the lowest such one");
        FactorHouse x = threeDue();
        x.lump(0, 0, 20);
        is("the lowest", x.invoiceIs(1, 0), 0);
        is("the next", x.invoiceIs(2, 0), 20);
        FactorHouse y = new FactorHouse();
        y.invoice(0, 0, 20, 9);
        y.invoice(0, 0, 20, 0);
        y.lump(0, 0, 20);
        is("also if it is due later", y.invoiceIs(0, 0), 0);
        FactorHouse z = Edge.fullHouse();
        z.lump(0, 0, 2);
        is("of 40 the first", z.invoiceIs(0, 0), 0);
        z.credit(39, 1);
        z.lump(0, 0, 1);
        is("of 40 the last", z.invoiceIs(39, 0), 0);
    }

    private static void byDaysDue() {
        Edge.sentence("otherwise to all, by the days due");
        FactorHouse x = threeDue();
        is("1, 2 and a part of 0", x.lump(0, 0, 45), 3);
        is("0 comes last", x.invoiceIs(0, 0), 5);
        FactorHouse y = new FactorHouse();
        y.invoice(0, 0, 10, 5);
        y.pass(1);
        y.invoice(0, 0, 20, 3);
        is("one day before", y.lump(0, 0, 11), 1);
        is("the second one is due before", y.invoiceIs(1, 0), 9);
    }

    private static void byNumbers() {
        Edge.sentence("then by numbers");
        FactorHouse x = threeDue();
        is("to one", x.lump(0, 0, 19), 1);
        is("the lower one", x.invoiceIs(1, 0), 1);
        FactorHouse y = new FactorHouse();
        y.invoice(0, 0, 10, 5);
        y.pass(5);
        y.invoice(0, 0, 20, 0);
        y.lump(0, 0, 9);
        is("on one day, made on two", y.invoiceIs(0, 0), 1);
    }

    private static void asFarAsItGoes() {
        Edge.sentence("one behind the other, as far as it goes");
        is("a cent short of two", threeDue().lump(0, 0, 39), 2);
        is("just two", threeDue().lump(0, 0, 40), 2);
        is("two and a cent", threeDue().lump(0, 0, 41), 3);
        is("just all", threeDue().lump(0, 0, 50), 3);
        is("more than all", threeDue().lump(0, 0, 51), 3);
        is("a cent", threeDue().lump(0, 0, 1), 1);
    }

    private static void onlyWithSomethingOwed() {
        Edge.sentence("matched to his invoices of which something is owed");
        FactorHouse x = threeDue();
        x.credit(1, 20);
        is("without a paid one", x.lump(0, 0, 25), 2);
        is("to the two others", x.invoiceIs(0, 0), 5);
        is("of another buyer there is none", threeDue().lump(1, 0, 10), 0);
        FactorHouse y = threeDue();
        y.lump(0, 0, 50);
        is("when nothing is owed there is none", y.lump(0, 0, 1), 0);
        is("in an empty house there is none", new FactorHouse().lump(0, 0, 1), 0);
    }

    private static void unmatched() {
        Edge.sentence("What is not matched does nothing else");
        FactorHouse x = Edge.oneSold(100);
        x.draw(4, 0, 80);
        x.pay(0, 4, 180);
        is("less is drawn by what is matched alone", x.drawn(4, 0), 0);
        is("the rest of what is matched is the seller's", x.purse(0), 80 + 20);
        is("what is not matched stays with the party", x.purse(4), -80 + 180 - 20);
        FactorHouse y = Edge.oneBilled(100);
        y.assign(0, 4, false);
        y.pay(0, 0, 180);
        is("what is not matched is not handed on", y.purse(0), 80 + 100);
        is("no wrong payment comes of it", y.mend(), 0);
        FactorHouse z = Edge.oneSold(100);
        z.draw(4, 0, 80);
        z.lump(1, 4, 50);
        is("a lump sum that is not matched leaves what is drawn", z.drawn(4, 0), 80);
    }

    private static void handedOn() {
        Edge.sentence("handed on to the owner at once then, if that is another one");
        FactorHouse x = silent(5);
        x.pay(0, 0, 3);
        is("the seller has none", x.purse(0), 3);
        is("the factor gave it back, as nothing is drawn", x.purse(5), 0);
        FactorHouse y = Edge.wide();
        y.invoice(0, 0, 100, 0);
        y.assign(0, 5, false);
        y.draw(5, 0, 80);
        y.pay(0, 0, 60);
        is("from the seller's purse", y.purse(0), 80);
        is("to the factor's", y.purse(5), -20);
        is("less is drawn", y.drawn(5, 0), 20);
        FactorHouse z = Edge.oneBilled(100);
        z.pay(0, 0, 60);
        is("the owner himself keeps it", z.purse(0), 60);
    }

    // ---- Wrong payments

    private static void wrongPayments() {
        wrongToWhom();
        wrongCount();
        risingNumbers();
        asMuch();
        mendedAsFarAsItGoes();
        ownerOfThen();
        mendedOnce();
    }

    private static void wrongToWhom() {
        Edge.sentence("Otherwise it does not (also if it was paid to an owner not told of)");
        is("to another seller", Edge.oneBilled(10).pay(0, 1, 5), 10);
        is("to a factor without assignment", Edge.oneBilled(10).pay(0, 4, 5), 10);
        is("to an owner who is silent", silent(4).pay(0, 4, 3), 5);
        FactorHouse x = silent(4);
        x.register(0, 4);
        is("to an owner who is registered", x.pay(0, 4, 3), 5);
        is("to the seller behind a notice", Edge.oneSold(10).pay(0, 0, 5), 10);
        FactorHouse y = Edge.oneSold(10);
        y.assign(0, 5, true);
        is("to the second one who told", y.pay(0, 5, 5), 10);
        FactorHouse z = Edge.oneSold(10);
        z.giveBack(0, 4);
        is("to one who gave it back", z.pay(0, 4, 5), 10);
        is("each is a wrong payment", z.mend(), 1);
    }

    private static void wrongCount() {
        Edge.sentence("and is a wrong payment, numbered from 0, at most 30");
        FactorHouse x = Edge.wronglyPaid(29);
        is("the 30th", x.pay(0, 1, 1), 1000);
        is("all 30 are mended", x.mend(), 30);
        Edge.refused(Edge.STATE, "the 31st", () -> Edge.wronglyPaid(30), y -> y.pay(0, 1, 1));
        Edge.refused(Edge.STATE, "the 31st behind mended ones", () -> {
            FactorHouse y = Edge.wronglyPaid(30);
            y.mend();
            return y;
        }, y -> y.pay(0, 1, 1));
        is("a right one goes on", Edge.wronglyPaid(30).pay(0, 0, 1), 999);
        Edge.Start silentBehind30 = () -> {
            FactorHouse y = Edge.wronglyPaid(30);
            y.assign(0, 4, false);
            return y;
        };
        Edge.refused(Edge.STATE, "the 31st, to an owner who is silent", silentBehind30,
                y -> y.pay(0, 4, 1));
        Edge.refused(Edge.STATE, "the 31st, to him as a lump sum", silentBehind30,
                y -> y.lump(0, 4, 1));
        is("one that is handed on goes on", silentBehind30.make().pay(0, 0, 1), 999);
    }

    private static void risingNumbers() {
        Edge.sentence("those that were not mended are gone through by rising numbers");
        FactorHouse x = Edge.oneBilled(100);
        x.pay(0, 1, 60);
        x.pay(0, 2, 70);
        is("both", x.mend(), 2);
        is("of the second one 30 were left for the buyer", x.buyer(0), -100);
        is("the second party gave all", x.purse(2), 0);
        FactorHouse y = Edge.wide();
        y.invoice(0, 0, 100, 0);
        y.invoice(1, 1, 100, 0);
        y.pay(0, 4, 70);
        y.pay(1, 4, 50);
        y.assign(0, 4, false);
        y.draw(4, 0, 40);
        y.giveBack(0, 4);
        is("80 are enough for the first one or the second", y.mend(), 1);
        is("the first one was looked at first", y.invoiceIs(0, 0), 30);
        is("the second one waits", y.invoiceIs(1, 0), 100);
        goneThroughOnce();
    }

    /** A mended one fills the purse of factor 4 as far as another wrong payment asks. */
    private static void goneThroughOnce() {
        for (int waiting = 0; waiting < 2; waiting++) {
            FactorHouse x = Edge.oneSold(1000);
            x.invoice(1, 1, 100, 0);
            x.pay(waiting == 0 ? 1 : 0, waiting == 0 ? 4 : 2, waiting == 0 ? 50 : 40);
            x.pay(waiting == 0 ? 0 : 1, waiting == 0 ? 2 : 4, waiting == 0 ? 40 : 50);
            x.draw(4, 0, 30);
            is("factor 4 has 20 of 50", x.purse(4), 20);
            is("a later one is looked at by the same call", x.mend(), waiting == 0 ? 1 : 2);
            is("an earlier one is not", x.invoiceIs(1, 0), waiting == 0 ? 100 : 50);
            is("but by the next call", x.mend(), waiting == 0 ? 1 : 0);
            is("at last", x.invoiceIs(1, 0), 50);
        }
    }

    private static void asMuch() {
        Edge.sentence("one is mended, if the purse of the party that got it has as much");
        for (int drawn = 49; drawn <= 51; drawn++) {
            FactorHouse x = Edge.oneSold(1000);
            x.invoice(1, 1, 100, 0);
            x.pay(1, 4, 100);
            x.draw(4, 0, drawn);
            x.lump(4, 4, 50);
            is("drawn " + drawn + " of 150", x.mend(), drawn <= 50 ? 1 : 0);
            is("owed then", x.invoiceIs(1, 0), drawn <= 50 ? 0 : 100);
        }
        FactorHouse y = Edge.oneBilled(10);
        y.pay(0, 1, 10);
        y.pay(0, 0, 10);
        is("the whole payment is asked, though nothing is owed", y.mend(), 1);
        is("all of it is left to the buyer", y.buyer(0), -10);
        FactorHouse z = Edge.oneSold(1000);
        z.invoice(1, 1, 100, 0);
        z.pay(1, 4, 100);
        z.draw(4, 0, 1);
        z.pay(1, 1, 50);
        is("99 are not as much as the payment, though 50 are owed", z.mend(), 0);
    }

    private static void mendedAsFarAsItGoes() {
        Edge.sentence("becomes less by it, as far as it goes, what is left to the buyer's");
        for (int owed = 59; owed <= 61; owed++) {
            FactorHouse x = Edge.oneBilled(100);
            x.pay(0, 1, 60);
            x.credit(0, 100 - owed);
            is("mended", x.mend(), 1);
            is("owed of " + owed, x.invoiceIs(0, 0), Math.max(0, owed - 60));
            is("the owner's purse", x.purse(0), Math.min(owed, 60));
            is("the buyer's purse", x.buyer(0), -Math.min(owed, 60));
            is("the party's purse", x.purse(1), 0);
            is("anew", x.owedAnew(0), Math.max(0, owed - 60));
        }
    }

    private static void ownerOfThen() {
        Edge.sentence("from that purse to that of the owner of then");
        FactorHouse x = Edge.oneBilled(100);
        x.pay(0, 1, 60);
        x.limit(5, 0, 100);
        x.assign(0, 5, false);
        x.draw(5, 0, 60);
        x.mend();
        is("to one who became the owner since", x.drawn(5, 0), 0);
        is("his purse", x.purse(5), 0);
        FactorHouse y = silent(5);
        y.pay(0, 5, 3);
        is("to one who got it himself", y.mend(), 1);
        is("owed", y.invoiceIs(0, 0), 2);
        is("handed on to the seller", y.purse(0), 3);
    }

    private static void mendedOnce() {
        Edge.sentence("those that were not mended");
        FactorHouse x = Edge.wronglyPaid(1);
        x.lump(1, 1, 10);
        is("once", x.mend(), 1);
        is("not twice", x.mend(), 0);
        is("owed", x.invoiceIs(0, 0), 999);
        is("none in an empty house", new FactorHouse().mend(), 0);
    }

    // ---- Advances

    private static void advances() {
        atFirst();
        ofAFactor();
        old();
        countsForTheOwner();
        notMoreThanAHalf();
        limitOfTheBase();
        shareOfTheBase();
        rateOfTheBase();
        canBeDrawn();
        drawMoves();
        interest();
    }

    private static void atFirst() {
        Edge.sentence("80 at first, a limit, 0 at first, 100 at first, 3 at first");
        for (int factor = 4; factor < 7; factor++) {
            FactorHouse x = Edge.oneBilled(10000);
            x.assign(0, factor, false);
            is("a limit of 0", x.base(factor, 0), 0);
            x.limit(factor, 0, 100000000);
            is("a rate of 80, a share of 100", x.base(factor, 0), 8000);
            x.draw(factor, 0, 8000);
            x.pass(1);
            is("an interest of 3", x.drawn(factor, 0), 8002);
        }
    }

    private static void ofAFactor() {
        Edge.sentence("a rate, 0 to 100, a share, 1 to 100, interest, 0 to 9");
        is("the rate 0", told(0, 100, 0).base(4, 0), 0);
        is("the rate 1", told(1, 100, 0).base(4, 0), 100);
        is("the rate 100", told(100, 100, 0).base(4, 0), 10000);
        is("the share 1", told(100, 1, 0).base(4, 0), 100);
        is("the share 100", told(100, 100, 0).base(4, 0), 10000);
        FactorHouse x = told(100, 100, 0);
        x.draw(4, 0, 10000);
        x.pass(1);
        is("the interest 0", x.drawn(4, 0), 10000);
        FactorHouse y = told(100, 100, 9);
        y.draw(4, 0, 10000);
        y.pass(1);
        is("the interest 9", y.drawn(4, 0), 10009);
    }

    private static FactorHouse told(int rate, int share, int interest) {
        FactorHouse house = Edge.oneSold(10000);
        house.factor(4, rate, share, interest);
        return house;
    }

    private static void old() {
        Edge.sentence("old, if today is more than 60 days behind its day due");
        FactorHouse x = Edge.passed(Edge.oneSold(10), 60);
        is("60 days", x.invoiceIs(0, 5), 4);
        x.pass(1);
        is("61 days", x.invoiceIs(0, 5), -1);
        FactorHouse y = Edge.wide();
        Edge.sold(y, 0, 10, 300);
        Edge.passed(y, 360);
        is("60 days behind the day 300", y.invoiceIs(0, 5), 4);
        y.pass(1);
        is("61 days behind the day 300", y.invoiceIs(0, 5), -1);
    }

    private static void countsForTheOwner() {
        Edge.sentence("counts for a factor, if he is its owner, something is owed, not disputed");
        is("the owner", Edge.oneSold(10).invoiceIs(0, 5), 4);
        is("no factor", Edge.oneBilled(10).invoiceIs(0, 5), -1);
        FactorHouse x = Edge.oneSold(10);
        x.assign(0, 5, true);
        is("not the second one", x.base(5, 0), 0);
        x.credit(0, 9);
        is("a cent", x.invoiceIs(0, 5), 4);
        x.credit(0, 1);
        is("nothing", x.invoiceIs(0, 5), -1);
        FactorHouse y = Edge.oneSold(10);
        y.dispute(0, true);
        is("disputed", y.invoiceIs(0, 5), -1);
        y.dispute(0, false);
        is("no more", y.invoiceIs(0, 5), 4);
        FactorHouse z = Edge.oneBilled(10);
        z.assign(0, 6, false);
        is("without any limit", z.invoiceIs(0, 5), 6);
    }

    private static void notMoreThanAHalf() {
        Edge.sentence("not more than a half is owed by old ones");
        for (int young = 99; young <= 101; young++) {
            FactorHouse x = oldAndYoung(100, young);
            is("old 100, young " + young, x.invoiceIs(1, 5), young >= 100 ? 4 : -1);
            is("in the base", x.base(4, 0), young >= 100 ? young * 8 / 10 : 0);
            x.dispute(0, true);
            is("old and disputed", x.invoiceIs(1, 5), young >= 100 ? 4 : -1);
        }
        FactorHouse y = oldAndYoung(100, 50);
        Edge.sold(y, 0, 50, 0);
        y.dispute(2, true);
        is("disputed ones are in all", y.invoiceIs(1, 5), 4);
        y.giveBack(2, 4);
        is("those of another owner are not", y.invoiceIs(1, 5), -1);
        FactorHouse z = oldAndYoung(100, 50);
        Edge.sold(z, 1, 50, 0);
        is("those of another buyer are not", z.invoiceIs(1, 5), -1);
        is("and count by themselves", z.invoiceIs(2, 5), 4);
        FactorHouse v = oldAndYoung(100, 50);
        v.invoice(1, 0, 50, 0);
        v.assign(2, 4, true);
        is("those of another seller are", v.invoiceIs(1, 5), 4);
        FactorHouse w = oldAndYoung(100, 50);
        w.pay(0, 4, 50);
        is("by what is owed by old ones", w.invoiceIs(1, 5), 4);
        FactorHouse u = oldAndYoung(100, 150);
        u.credit(1, 50);
        is("by what is owed by young ones", u.invoiceIs(1, 5), 4);
        u.credit(1, 1);
        is("not by their amounts", u.invoiceIs(1, 5), -1);
        FactorHouse t = oldAndYoung(100, 99);
        t.factor(4, 100, 100, 0);
        is("nothing of it is in the base", t.base(4, 0), 0);
    }

    /** Two invoices of seller 0 and buyer 0 with factor 4, the first one of them old. */
    private static FactorHouse oldAndYoung(int old, int young) {
        FactorHouse house = Edge.oneSold(old);
        Edge.passed(house, 61);
        Edge.sold(house, 0, young, 0);
        return house;
    }

    private static void limitOfTheBase() {
        Edge.sentence("at most the factor's limit for the buyer (for each seller by itself)");
        for (int limit = 999; limit <= 1001; limit++) {
            FactorHouse x = told(100, 100, 0);
            x.credit(0, 9000);
            x.limit(4, 0, limit);
            is("1000 by a limit of " + limit, x.base(4, 0), Math.min(limit, 1000));
        }
        FactorHouse y = told(100, 100, 0);
        y.invoice(1, 0, 10000, 0);
        y.assign(1, 4, true);
        Edge.sold(y, 0, 10000, 0);
        Edge.sold(y, 1, 10000, 0);
        y.limit(4, 0, 700);
        y.limit(4, 1, 30);
        is("for two of one buyer together, and another buyer", y.base(4, 0), 730);
        is("for another seller again", y.base(4, 1), 700);
        y.limit(4, 0, 0);
        is("a limit of 0", y.base(4, 0), 30);
    }

    private static void shareOfTheBase() {
        Edge.sentence("and at most the share of all that is owed, by 100, rounded down");
        FactorHouse x = told(100, 1, 0);
        x.credit(0, 9801);
        is("1 of 199", x.base(4, 0), 1);
        x.credit(0, 99);
        is("1 of 100", x.base(4, 0), 1);
        x.credit(0, 1);
        is("1 of 99", x.base(4, 0), 0);
        FactorHouse y = told(100, 50, 0);
        Edge.sold(y, 1, 10000, 0);
        is("just a half each", y.base(4, 0), 20000);
        y.credit(1, 2);
        is("9999 and 9998", y.base(4, 0), 19997);
        y.dispute(1, true);
        is("of those that count", y.base(4, 0), 5000);
        y.invoice(1, 1, 10000, 0);
        y.assign(2, 4, true);
        is("of this seller", y.base(4, 0), 5000);
        y.dispute(1, false);
        y.limit(4, 0, 1);
        is("of what is owed, not of the limits", y.base(4, 0), 9999);
    }

    private static void rateOfTheBase() {
        Edge.sentence("these together times the rate by 100, rounded down");
        FactorHouse x = told(50, 100, 0);
        x.credit(0, 9997);
        Edge.sold(x, 1, 3, 0);
        is("3 and 3 by 50", x.base(4, 0), 3);
        x.credit(1, 1);
        is("3 and 2 by 50", x.base(4, 0), 2);
        FactorHouse y = told(99, 100, 0);
        y.credit(0, 9999);
        is("1 by 99", y.base(4, 0), 0);
        FactorHouse z = new FactorHouse();
        z.limit(4, 0, 100000000);
        z.factor(4, 100, 100, 0);
        for (int number = 0; number < 40; number++) {
            Edge.sold(z, 0, 1000000, 0);
        }
        is("40 of the greatest", z.base(4, 0), 40000000);
        is("nothing in an empty house", Edge.wide().base(4, 0), 0);
    }

    private static void canBeDrawn() {
        Edge.sentence("What can be drawn is the base less what is drawn, 0 at least");
        is("all", Edge.oneSold(1000).draw(4, 0, 800), 800);
        Edge.refused(Edge.ARGUMENT, "a cent more", () -> Edge.oneSold(1000),
                x -> x.draw(4, 0, 801));
        Edge.Start most = () -> {
            FactorHouse x = Edge.oneSold(1000);
            x.draw(4, 0, 799);
            return x;
        };
        is("the last cent", most.make().draw(4, 0, 1), 800);
        Edge.refused(Edge.ARGUMENT, "a cent more than the last", most, x -> x.draw(4, 0, 2));
        Edge.Start above = () -> {
            FactorHouse x = Edge.oneSold(1000);
            x.draw(4, 0, 800);
            x.credit(0, 500);
            return x;
        };
        Edge.refusedEach(Edge.ARGUMENT, "above the base", above, (x, bad) -> x.draw(4, 0, bad),
                -400, -1, 0, 1);
    }

    private static void drawMoves() {
        Edge.sentence("To draw moves so much from the factor's purse to the seller's");
        FactorHouse x = Edge.oneSold(1000);
        x.draw(4, 0, 1);
        is("from the factor's", x.purse(4), -1);
        is("to the seller's", x.purse(0), 1);
        is("also below 0", Edge.oneSold(1000000).draw(4, 0, 800000), 800000);
    }

    private static void interest() {
        Edge.sentence("becomes more by it times the interest by 10000, rounded down");
        int[][] cases = {{3333, 3, 3333}, {3334, 3, 3335}, {1111, 9, 1111}, {1112, 9, 1113},
            {9999, 1, 9999}, {10000, 1, 10001}, {10000, 0, 10000}, {0, 9, 0}};
        for (int[] one : cases) {
            FactorHouse x = told(100, 100, one[1]);
            if (one[0] > 0) {
                x.draw(4, 0, one[0]);
            }
            x.pass(1);
            is(one[0] + " by " + one[1], x.drawn(4, 0), one[2]);
        }
        Edge.sentence("As a day begins");
        FactorHouse x = told(100, 100, 9);
        x.draw(4, 0, 10000);
        is("not today", x.drawn(4, 0), 10000);
        x.pass(2);
        is("on each day: 9 and 9.0081", x.drawn(4, 0), 10018);
        FactorHouse y = told(100, 100, 9);
        y.draw(4, 0, 1111);
        y.pass(100);
        is("rounded down on each day by itself", y.drawn(4, 0), 1111);
        FactorHouse z = told(100, 100, 9);
        z.draw(4, 0, 1112);
        z.fail(0);
        z.pass(1);
        is("also of one who failed", z.drawn(4, 0), 1113);
        is("it moves no money", z.purse(4), -1112);
        for (int factor = 4; factor < 7; factor++) {
            for (int seller = 0; seller < 4; seller++) {
                FactorHouse v = Edge.wide();
                v.invoice(seller, 4, 100000, 0);
                v.assign(0, factor, true);
                v.draw(factor, seller, 10000);
                v.pass(1);
                is("what " + seller + " has from " + factor, v.drawn(factor, seller), 10003);
            }
        }
    }

    // ---- Payments that come to an owner who is a factor

    private static void repayments() {
        Edge.sentence("becomes less by it, as far as that goes; what is more goes to the seller's");
        for (int paid = 79; paid <= 81; paid++) {
            FactorHouse x = Edge.oneSold(100);
            x.draw(4, 0, 80);
            x.pay(0, 4, paid);
            repaid("at once " + paid, x, paid);
            FactorHouse y = Edge.wide();
            y.invoice(0, 0, 100, 0);
            y.assign(0, 4, false);
            y.draw(4, 0, 80);
            y.pay(0, 0, paid);
            repaid("handed on " + paid, y, paid);
            FactorHouse z = Edge.oneSold(100);
            z.draw(4, 0, 80);
            z.pay(0, 1, paid);
            is("not before it is mended", z.drawn(4, 0), 80);
            z.mend();
            repaid("mended " + paid, z, paid);
            FactorHouse v = Edge.oneSold(100);
            v.draw(4, 0, 80);
            v.lump(0, 4, paid);
            repaid("as a lump sum " + paid, v, paid);
        }
        FactorHouse w = Edge.oneSold(100);
        w.invoice(1, 0, 100, 0);
        w.assign(1, 4, true);
        w.draw(4, 0, 80);
        w.pay(1, 4, 50);
        is("what its seller has drawn, not another one", w.drawn(4, 0), 80);
        is("so all goes to its seller", w.purse(1), 50);
    }

    private static void repaid(String how, FactorHouse x, int paid) {
        is(how + ": drawn", x.drawn(4, 0), Math.max(0, 80 - paid));
        is(how + ": the factor's purse", x.purse(4), Math.min(0, paid - 80));
        is(how + ": the seller's purse", x.purse(0), 80 + Math.max(0, paid - 80));
    }

    // ---- Disputes, recourse

    private static void disputesAndRecourse() {
        disputedAndNoMore();
        longDue();
        aboveTheBase();
        atMostThePurse();
    }

    private static void disputedAndNoMore() {
        Edge.sentence("An invoice can be disputed, and no more");
        FactorHouse x = Edge.oneBilled(10);
        is("not at first", x.invoiceIs(0, 4), 0);
        x.dispute(0, true);
        is("disputed", x.invoiceIs(0, 4), 1);
        x.dispute(0, false);
        is("no more", x.invoiceIs(0, 4), 0);
        x.dispute(0, true);
        is("again", x.invoiceIs(0, 4), 1);
    }

    private static void longDue() {
        Edge.sentence("disputed, or whose day due is more than 90 days ago");
        Edge.refused(Edge.STATE, "90 days", () -> Edge.passed(Edge.oneSold(10), 90),
                x -> x.recourse(0));
        FactorHouse x = Edge.passed(Edge.oneSold(10), 91);
        is("91 days", x.recourse(0), 0);
        is("given back", x.invoiceIs(0, 1), 0);
        Edge.Start late = () -> {
            FactorHouse v = Edge.wide();
            Edge.sold(v, 0, 10, 10);
            return v;
        };
        Edge.refused(Edge.STATE, "90 days behind the day 10",
                () -> Edge.passed(late.make(), 100), v -> v.recourse(0));
        is("91 days behind the day 10", Edge.passed(late.make(), 101).recourse(0), 0);
        Edge.refused(Edge.STATE, "before it is due", late, v -> v.recourse(0));
        FactorHouse y = Edge.oneSold(10);
        y.dispute(0, true);
        y.recourse(0);
        is("disputed on its first day", y.invoiceIs(0, 1), 0);
        Edge.refused(Edge.STATE, "disputed no more", () -> {
            FactorHouse z = Edge.oneSold(10);
            z.dispute(0, true);
            z.dispute(0, false);
            return z;
        }, z -> z.recourse(0));
        Edge.refused(Edge.STATE, "a seller's, disputed", () -> {
            FactorHouse z = Edge.oneBilled(10);
            z.dispute(0, true);
            return z;
        }, z -> z.recourse(0));
        Edge.refused(Edge.STATE, "a seller's, long due",
                () -> Edge.passed(Edge.oneBilled(10), 91), z -> z.recourse(0));
    }

    private static void aboveTheBase() {
        Edge.sentence("then what the seller has drawn above the base goes to the factor's");
        for (int drawn = 799; drawn <= 801; drawn++) {
            FactorHouse x = Edge.oneSold(1000);
            Edge.sold(x, 1, 1000, 0);
            x.draw(4, 0, drawn);
            x.dispute(0, true);
            int above = Math.max(0, drawn - 800);
            is("drawn " + drawn + " by a base of 800", x.recourse(0), above);
            is("drawn then", x.drawn(4, 0), drawn - above);
            is("the seller's purse", x.purse(0), drawn - above);
            is("the factor's purse", x.purse(4), above - drawn);
        }
        for (int factor = 4; factor < 7; factor++) {
            FactorHouse z = Edge.wide();
            z.invoice(3, 0, 1000, 0);
            z.assign(0, factor, true);
            z.draw(factor, 3, 800);
            z.dispute(0, true);
            is("from seller 3 to factor " + factor, z.recourse(0), 800);
            is("his purse", z.purse(factor), 0);
            is("the seller's purse", z.purse(3), 0);
        }
        FactorHouse y = Edge.oneSold(1000);
        Edge.sold(y, 0, 1000, 0);
        y.draw(4, 0, 1600);
        Edge.passed(y, 91);
        is("the base is found after it was given back: all of it is old",
                y.recourse(0), 1600);
    }

    private static void atMostThePurse() {
        Edge.sentence("at most what that purse has, and is less drawn");
        for (int interest = 0; interest <= 9; interest += 9) {
            FactorHouse x = Edge.oneSold(1000000);
            x.factor(4, 100, 100, interest);
            x.draw(4, 0, 100000);
            x.pass(1);
            x.dispute(0, true);
            is("drawn with " + interest * 10 + " of interest", x.recourse(0), 100000);
            is("the purse is empty", x.purse(0), 0);
            is("what stays drawn", x.drawn(4, 0), interest * 10);
        }
        FactorHouse y = Edge.oneSold(1000000);
        y.factor(4, 100, 100, 9);
        y.draw(4, 0, 100000);
        y.pass(1);
        y.lump(4, 0, 89);
        y.dispute(0, true);
        is("a cent short", y.recourse(0), 100089);
        is("stays drawn", y.drawn(4, 0), 1);
    }

    // ---- Failure

    private static void failure() {
        failedForEver();
        silentAssignmentsGo();
    }

    private static void failedForEver() {
        Edge.sentence("makes no invoices and no assignments, and draws nothing, for ever");
        Edge.Start start = () -> {
            FactorHouse x = Edge.oneSold(1000);
            x.fail(0);
            return Edge.passed(x, 2);
        };
        Edge.refused(Edge.STATE, "an invoice", start, x -> x.invoice(0, 0, 1, 0));
        Edge.refused(Edge.STATE, "an assignment", start, x -> x.assign(0, 5, true));
        Edge.refused(Edge.STATE, "a draw", start, x -> x.draw(4, 0, 1));
        Edge.refused(Edge.STATE, "a failure", start, x -> x.fail(0));
        for (int other = 1; other < 4; other++) {
            is("another seller goes on", start.make().invoice(other, 0, 1, 0), 1);
        }
        is("what he sold is paid", start.make().pay(0, 4, 1000), 0);
        is("what he sold counts", start.make().base(4, 0), 800);
    }

    private static void silentAssignmentsGo() {
        Edge.sentence("neither a notice nor a register as he fails are not there any more");
        FactorHouse x = assignedToAll(Edge.oneBilled(5));
        x.notice(0, 6);
        x.register(0, 5);
        is("one of three", x.fail(0), 1);
        is("a notice stays", x.invoiceIs(0, 1), 6);
        is("a register stays", x.giveBack(0, 6), 5);
        is("the silent one is gone", x.giveBack(0, 5), 0);
        FactorHouse y = assignedToAll(Edge.oneBilled(5));
        is("three of three", y.fail(0), 3);
        is("the seller is the owner", y.invoiceIs(0, 1), 0);
        FactorHouse z = Edge.oneSold(5);
        z.register(0, 4);
        is("one with both stays", z.fail(0), 0);
        FactorHouse v = assignedToAll(Edge.oneBilled(5));
        is("another seller's stay", v.fail(1), 0);
        is("the owner", v.invoiceIs(0, 1), 4);
        FactorHouse w = silent(4);
        w.credit(0, 5);
        is("also when nothing is owed", w.fail(0), 1);
        FactorHouse u = silent(4);
        u.giveBack(0, 4);
        is("one given back is none", u.fail(0), 0);
        FactorHouse t = new FactorHouse();
        for (int number = 0; number < 40; number++) {
            t.invoice(3, 0, 1, 0);
            t.assign(number, 4, false);
            t.assign(number, 5, false);
            t.assign(number, 6, false);
        }
        is("120 in a full house", t.fail(3), 120);
    }

    // ---- The pool

    private static void pool() {
        onlyOnce();
        takenOut();
        bad();
        worth();
        trigger();
    }

    private static void onlyOnce() {
        Edge.sentence("A factor can put an invoice that counts for him into the pool, once");
        is("once", Edge.oneSold(10).pool(0), 1);
        Edge.refused(Edge.STATE, "twice", () -> pooled(10), x -> x.pool(0));
        Edge.refused(Edge.STATE, "after it was taken out", () -> {
            FactorHouse x = pooled(10);
            x.dispute(0, true);
            x.look();
            x.dispute(0, false);
            return x;
        }, x -> x.pool(0));
        Edge.refused(Edge.STATE, "by another factor", () -> {
            FactorHouse x = pooled(10);
            x.giveBack(0, 4);
            x.look();
            x.assign(0, 5, true);
            return x;
        }, x -> x.pool(0));
        Edge.refused(Edge.STATE, "one that counts for none", () -> Edge.oneBilled(10),
                x -> x.pool(0));
    }

    /** Invoices of seller 0, one for each buyer, all sold to factor 4 and in the pool. */
    private static FactorHouse pooled(int... amounts) {
        FactorHouse house = Edge.wide();
        for (int buyer = 0; buyer < amounts.length; buyer++) {
            house.pool(Edge.sold(house, buyer, amounts[buyer], 0));
        }
        return house;
    }

    private static void takenOut() {
        Edge.sentence("all that do not count any more for the factor who put them are taken out");
        is("those that count stay", pooled(10, 10).look(), 0);
        FactorHouse x = pooled(10, 10, 10, 10);
        x.credit(0, 10);
        x.dispute(1, true);
        x.giveBack(2, 4);
        x.assign(2, 5, true);
        is("it counts for another one", x.invoiceIs(2, 5), 5);
        is("paid, disputed, another one's", x.look(), 3);
        is("not twice", x.look(), 0);
        FactorHouse y = Edge.passed(pooled(10), 60);
        is("60 days", y.look(), 0);
        y.pass(1);
        is("61 days", y.look(), 1);
        FactorHouse z = pooled(10);
        z.dispute(0, true);
        z.dispute(0, false);
        is("one that counts again stays", z.look(), 0);
        is("in the pool", z.financed(), 9);
        is("none in an empty house", new FactorHouse().look(), 0);
    }

    private static void bad() {
        Edge.sentence("by which something is owed, and that are old or disputed, are bad");
        FactorHouse x = pooled(100, 100);
        x.dispute(0, true);
        x.credit(0, 100);
        is("it is taken out", x.look(), 1);
        is("disputed, but nothing is owed", x.financed(), 90);
        FactorHouse o = Edge.wide();
        o.pool(Edge.sold(o, 0, 100, 0));
        o.pool(Edge.sold(o, 1, 100, 300));
        o.pay(0, 4, 100);
        Edge.passed(o, 61);
        is("it is taken out, too", o.look(), 1);
        is("old, but nothing is owed", o.financed(), 90);
        FactorHouse y = pooled(100, 100);
        y.giveBack(0, 4);
        y.look();
        is("neither old nor disputed", y.financed(), 90);
        FactorHouse z = pooled(100, 100);
        z.dispute(0, true);
        z.credit(0, 99);
        z.look();
        is("disputed, a cent is owed", z.financed(), 0);
        FactorHouse v = Edge.wide();
        v.pool(Edge.sold(v, 0, 100, 0));
        v.pool(Edge.sold(v, 1, 100, 300));
        Edge.passed(v, 61);
        is("old before a look", v.financed(), 180);
        v.look();
        is("old", v.financed(), 0);
        Edge.sentence("are bad, by what was owed as they were put in");
        FactorHouse w = Edge.wide();
        Edge.sold(w, 0, 101, 0);
        w.credit(0, 1);
        w.pool(0);
        w.pool(Edge.sold(w, 1, 900, 0));
        w.credit(0, 50);
        w.dispute(0, true);
        w.look();
        is("100 bad of 1000, not 101, by 900", w.financed(), 810);
        FactorHouse u = pooled(100, 899);
        u.credit(0, 99);
        u.dispute(0, true);
        u.look();
        is("100 bad of 999, not 1", u.financed(), 0);
    }

    private static void worth() {
        Edge.sentence("what is owed by what is in it; 90 hundredths of that, rounded down");
        int[][] cases = {{1, 0}, {2, 1}, {9, 8}, {10, 9}, {11, 9}, {1000000, 900000}};
        for (int[] one : cases) {
            is("worth " + one[0], pooled(one[0]).financed(), one[1]);
        }
        is("together, not one by one", pooled(5, 5).financed(), 9);
        FactorHouse x = pooled(100);
        x.credit(0, 90);
        is("what is owed now", x.financed(), 9);
        is("an empty pool", new FactorHouse().financed(), 0);
        FactorHouse y = new FactorHouse();
        for (int number = 0; number < 40; number++) {
            y.pool(Edge.sold(y, 0, 1000000, 0));
        }
        is("the most", y.financed(), 36000000);
    }

    private static void trigger() {
        Edge.sentence("with 0, if 10 times what is bad is more than all that was ever put in");
        for (int rest = 899; rest <= 901; rest++) {
            FactorHouse x = pooled(100, rest);
            x.dispute(0, true);
            x.look();
            is("100 bad of " + (100 + rest), x.financed(), rest < 900 ? 0 : rest * 90 / 100);
        }
        FactorHouse y = pooled(100, 900);
        y.dispute(0, true);
        y.look();
        y.credit(1, 899);
        is("by what was owed then", y.financed(), 0);
        y.pool(Edge.sold(y, 2, 10, 0));
        is("worth 11", y.financed(), 9);
        FactorHouse w = Edge.wide();
        Edge.sold(w, 0, 1000, 0);
        w.credit(0, 101);
        w.pool(0);
        w.pool(Edge.sold(w, 1, 100, 0));
        w.dispute(1, true);
        w.look();
        is("100 bad of 999, by what was owed as it was put in", w.financed(), 0);
        FactorHouse z = pooled(100, 899);
        z.dispute(0, true);
        z.look();
        z.dispute(0, false);
        is("bad once taken out", z.financed(), 0);
        z.pool(Edge.sold(z, 2, 1, 0));
        is("a cent more is put in", z.financed(), 810);
        FactorHouse v = pooled(100, 900);
        v.credit(1, 900);
        v.look();
        v.dispute(0, true);
        v.look();
        v.pool(Edge.sold(v, 2, 10, 0));
        is("what was taken out was put in", v.financed(), 9);
    }

    // ---- When a call throws

    private static void refusals() {
        Edge.sentence("of several exceptions it is the first one of the throws clause");
        Edge.refused(Edge.INDEX, "a seller and an amount, in a full house", Edge::fullHouse,
                x -> x.invoice(4, 0, 0, -1));
        Edge.refused(Edge.ARGUMENT, "an amount, in a full house", Edge::fullHouse,
                x -> x.invoice(0, 0, 0, 0));
        Edge.sentence("there is no such seller, buyer, factor or invoice");
        Edge.refusedEach(Edge.INDEX, "a seller", FactorHouse::new, (x, bad) -> x.base(4, bad),
                -1, 4, Integer.MIN_VALUE, Integer.MAX_VALUE);
        Edge.refusedEach(Edge.INDEX, "a buyer", FactorHouse::new, (x, bad) -> x.buyer(bad),
                -1, 5, Integer.MIN_VALUE, Integer.MAX_VALUE);
        Edge.refusedEach(Edge.INDEX, "a factor", FactorHouse::new, (x, bad) -> x.base(bad, 0),
                3, 7, -1, Integer.MIN_VALUE, Integer.MAX_VALUE);
        Edge.refusedEach(Edge.INDEX, "an invoice", FactorHouse::new, (x, bad) -> x.owedAnew(bad),
                -1, 0, 40, Integer.MIN_VALUE, Integer.MAX_VALUE);
        Edge.refusedEach(Edge.INDEX, "an invoice of one", () -> Edge.oneBilled(5),
                (x, bad) -> x.owedAnew(bad), -1, 1);
    }
}
