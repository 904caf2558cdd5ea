/** What a random run can call: the house itself, or the model that tells what is due. */
interface Target {
    int INVOICE = 0;
    int CREDIT = 1;
    int DISPUTE = 2;
    int ASSIGN = 3;
    int NOTICE = 4;
    int REGISTER = 5;
    int GIVE_BACK = 6;
    int INVOICE_IS = 7;
    int OWED_ANEW = 8;
    int PAY = 9;
    int LUMP = 10;
    int MEND = 11;
    int PURSE = 12;
    int BUYER = 13;
    int BALANCES = 14;
    int FACTOR = 15;
    int LIMIT = 16;
    int BASE = 17;
    int DRAWN = 18;
    int DRAW = 19;
    int RECOURSE = 20;
    int FAIL = 21;
    int PASS = 22;
    int POOL = 23;
    int LOOK = 24;
    int FINANCED = 25;
    int KINDS = 26;

    long call(int kind, int a, int b, int c, int d);

    /** The house behind the face of a target. */
    final class House implements Target {
        private final FactorHouse house = new FactorHouse();

        @Override
        public long call(int kind, int a, int b, int c, int d) {
            switch (kind) {
                case INVOICE: return house.invoice(a, b, c, d);
                case CREDIT: return house.credit(a, b);
                case DISPUTE: return house.dispute(a, b > 0) ? 1 : 0;
                case ASSIGN: return house.assign(a, b, c > 0);
                case NOTICE: return house.notice(a, b);
                case REGISTER: return house.register(a, b);
                case GIVE_BACK: return house.giveBack(a, b);
                case INVOICE_IS: return house.invoiceIs(a, b);
                case OWED_ANEW: return house.owedAnew(a);
                case PAY: return house.pay(a, b, c);
                case LUMP: return house.lump(a, b, c);
                case MEND: return house.mend();
                case PURSE: return house.purse(a);
                case BUYER: return house.buyer(a);
                case BALANCES: return house.balances() ? 1 : 0;
                case FACTOR: house.factor(a, b, c, d); return 0;
                case LIMIT: house.limit(a, b, c); return 0;
                case BASE: return house.base(a, b);
                case DRAWN: return house.drawn(a, b);
                case DRAW: return house.draw(a, b, c);
                case RECOURSE: return house.recourse(a);
                case FAIL: return house.fail(a);
                case PASS: return house.pass(a);
                case POOL: return house.pool(a);
                case LOOK: return house.look();
                default: return house.financed();
            }
        }
    }
}
