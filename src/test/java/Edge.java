/**
 * What the tests of single sentences have in common. Each sentence of the document is tried on
 * houses of its own, and none of them is called more than 512 times.
 */
final class Edge {
    static final Class<IndexOutOfBoundsException> INDEX = IndexOutOfBoundsException.class;
    static final Class<IllegalArgumentException> ARGUMENT = IllegalArgumentException.class;
    static final Class<IllegalStateException> STATE = IllegalStateException.class;

    private static final int INVOICES_ASKED = 6;

    interface Start {
        FactorHouse make();
    }

    interface Act {
        void on(FactorHouse house);
    }

    interface Ask {
        long on(FactorHouse house);
    }

    private static String sentence = "";

    private Edge() {
    }

    /** Names the sentence that is tried from here on. */
    static void sentence(String text) {
        sentence = text;
    }

    static void is(String what, long got, long want) {
        Check.due("[" + sentence + "] " + what, got, want);
    }

    static void is(String what, boolean got, boolean want) {
        Check.due("[" + sentence + "] " + what, got, want);
    }

    /** The call throws just this class; a house without that call is like the one with it. */
    static void refused(Class<? extends RuntimeException> type, String call, Start start, Act act) {
        String what = "[" + sentence + "] " + call;
        FactorHouse seen = start.make();
        Check.due(what + " throws", thrownBy(seen, act), type.getName());
        Check.due(what + " leaves", Snapshot.of(seen), Snapshot.of(start.make()));
        FactorHouse used = start.make();
        thrownBy(used, act);
        Check.due(what + " leaves for later", aftermath(used), aftermath(start.make()));
    }

    /** Each of these arguments is refused in the same way. */
    static void refusedEach(Class<? extends RuntimeException> type, String call, Start start,
            java.util.function.BiConsumer<FactorHouse, Integer> act, int... bad) {
        for (int value : bad) {
            refused(type, call + " with " + value, start, x -> act.accept(x, value));
        }
    }

    private static String thrownBy(FactorHouse house, Act act) {
        try {
            act.on(house);
        } catch (RuntimeException e) {
            return e.getClass().getName();
        }
        return "nothing";
    }

    /** What is not told by asking, but by later calls: wrong payments, turns, the pool, failures. */
    private static String aftermath(FactorHouse house) {
        StringBuilder text = new StringBuilder();
        add(text, house, x -> x.look());
        add(text, house, x -> x.mend());
        add(text, house, x -> x.lump(4, 6, 7));
        add(text, house, x -> x.pass(1));
        for (int invoice = 0; invoice < INVOICES_ASKED; invoice++) {
            int number = invoice;
            add(text, house, x -> x.pool(number));
            for (int factor = 6; factor >= 4; factor--) {
                int of = factor;
                add(text, house, x -> x.assign(number, of, false));
                add(text, house, x -> x.register(number, of));
                add(text, house, x -> x.notice(number, of));
            }
            add(text, house, x -> x.pay(number, 3, 1));
        }
        for (int seller = 0; seller < 4; seller++) {
            int of = seller;
            add(text, house, x -> x.invoice(of, of, 5, 5));
        }
        return text.append(Snapshot.of(house)).toString();
    }

    private static void add(StringBuilder text, FactorHouse house, Ask ask) {
        try {
            text.append(' ').append(ask.on(house));
        } catch (RuntimeException e) {
            text.append(' ').append(e.getClass().getName());
        }
    }

    /** A new house whose factors have limits that do not bind. */
    static FactorHouse wide() {
        FactorHouse house = new FactorHouse();
        for (int factor = 4; factor < 7; factor++) {
            for (int buyer = 0; buyer < 5; buyer++) {
                house.limit(factor, buyer, 100000000);
            }
        }
        return house;
    }

    /** An invoice of seller 0 and a buyer, assigned to factor 4 with a notice. */
    static int sold(FactorHouse house, int buyer, int amount, int days) {
        int number = house.invoice(0, buyer, amount, days);
        house.assign(number, 4, true);
        return number;
    }

    /** A wide house with one invoice of seller 0 and buyer 0, sold to factor 4 with a notice. */
    static FactorHouse oneSold(int amount) {
        FactorHouse house = wide();
        sold(house, 0, amount, 0);
        return house;
    }

    /** A new house with one invoice of seller 0 and buyer 0. */
    static FactorHouse oneBilled(int amount) {
        FactorHouse house = new FactorHouse();
        house.invoice(0, 0, amount, 0);
        return house;
    }

    /** 40 invoices of seller 0 and buyer 0, of 2 cents each, due one day behind another. */
    static FactorHouse fullHouse() {
        FactorHouse house = new FactorHouse();
        for (int number = 0; number < 40; number++) {
            house.invoice(0, 0, 2, number);
        }
        return house;
    }

    /** One invoice of 1000 of seller 0, and wrong payments of a cent each, that seller 1 has. */
    static FactorHouse wronglyPaid(int times) {
        FactorHouse house = oneBilled(1000);
        for (int i = 0; i < times; i++) {
            house.pay(0, 1, 1);
        }
        return house;
    }

    static FactorHouse passed(FactorHouse house, int days) {
        for (int left = days; left > 0; left -= 100) {
            house.pass(Math.min(left, 100));
        }
        return house;
    }
}
