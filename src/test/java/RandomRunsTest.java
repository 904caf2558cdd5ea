/**
 * Long runs of calls, the same each time, whose answers are held against the model's. What cannot
 * be seen from an answer is read now and then from all that the house tells.
 */
public final class RandomRunsTest {
    private static final int RUNS = 400;
    private static final int CALLS = 512;
    private static final int STATE_EACH = 8;
    private static final int CALLS_BEYOND = 6000;

    /** How often each kind is called, by the order of the kinds. */
    private static final int[][] MIXES = {
        {9, 3, 4, 9, 5, 5, 3, 1, 1, 8, 6, 4, 1, 1, 1, 2, 5, 1, 1, 6, 2, 0, 3, 4, 3, 2},
        {9, 1, 4, 9, 3, 3, 2, 1, 1, 6, 5, 2, 1, 1, 1, 2, 9, 1, 1, 9, 4, 0, 9, 9, 7, 4},
        {9, 1, 1, 6, 2, 2, 1, 1, 1, 12, 12, 6, 1, 1, 1, 1, 3, 1, 1, 3, 1, 0, 1, 1, 1, 1},
        {9, 3, 4, 9, 5, 5, 3, 1, 1, 8, 6, 4, 1, 1, 1, 2, 5, 1, 1, 6, 2, 1, 3, 4, 3, 2},
    };

    private static long seed;

    private RandomRunsTest() {
    }

    public static void main(String[] args) {
        for (int run = 0; run < RUNS; run++) {
            seed = 1000003L * run + 17;
            compare(run, MIXES[run % MIXES.length]);
        }
        throwsOnlyItsOwn();
        Check.end();
    }

    private static int below(int bound) {
        seed = seed * 6364136223846793005L + 1442695040888963407L;
        return (int) ((seed >>> 33) % bound);
    }

    private static int kindOf(int[] mix) {
        int sum = 0;
        for (int share : mix) {
            sum += share;
        }
        int at = below(sum);
        for (int kind = 0; kind < mix.length; kind++) {
            at -= mix[kind];
            if (at < 0) {
                return kind;
            }
        }
        return Target.FINANCED;
    }

    private static void compare(int run, int[] mix) {
        Target house = new Target.House();
        Target model = new Model();
        int scale = new int[] {20, 400, 10000, 1000000}[below(4)];
        for (int i = 0; i < CALLS; i++) {
            int kind = kindOf(mix);
            int[] a = argumentsOf(kind, house, scale);
            String call = "run " + run + ", call " + i + ", kind " + kind + " (" + a[0] + ", " + a[1]
                    + ", " + a[2] + ", " + a[3] + ")";
            Check.due(call, answer(house, kind, a), answer(model, kind, a));
            if (i % STATE_EACH == 0) {
                Check.due("after " + call, state(house), state(model));
            }
        }
    }

    private static String answer(Target target, int kind, int[] a) {
        try {
            return Long.toString(target.call(kind, a[0], a[1], a[2], a[3]));
        } catch (RuntimeException e) {
            return "throws." + e.getClass().getName();
        }
    }

    private static String state(Target target) {
        StringBuilder text = new StringBuilder();
        for (int invoice = 0; invoice < 41; invoice++) {
            for (int what = 0; what < 6; what++) {
                add(text, target, Target.INVOICE_IS, invoice, what);
            }
            add(text, target, Target.OWED_ANEW, invoice, 0);
        }
        for (int factor = 4; factor < 7; factor++) {
            for (int seller = 0; seller < 4; seller++) {
                add(text, target, Target.BASE, factor, seller);
                add(text, target, Target.DRAWN, factor, seller);
            }
        }
        for (int party = 0; party < 7; party++) {
            add(text, target, Target.PURSE, party, 0);
        }
        for (int buyer = 0; buyer < 5; buyer++) {
            add(text, target, Target.BUYER, buyer, 0);
        }
        add(text, target, Target.BALANCES, 0, 0);
        add(text, target, Target.FINANCED, 0, 0);
        return text.toString();
    }

    private static void add(StringBuilder text, Target target, int kind, int a, int b) {
        if (kind == Target.INVOICE_IS || kind == Target.OWED_ANEW) {
            if (a >= 40 || answer(target, Target.OWED_ANEW, new int[] {a, 0, 0, 0}).startsWith("t")) {
                return;
            }
        }
        text.append(' ').append(answer(target, kind, new int[] {a, b, 0, 0}));
    }

    private static int[] argumentsOf(int kind, Target house, int scale) {
        int[] a = {0, 0, 0, 0};
        int invoice = below(24);
        switch (kind) {
            case Target.INVOICE:
                a = new int[] {below(4), below(3), 1 + below(scale), below(4) * below(60)};
                break;
            case Target.FACTOR:
                a = new int[] {4 + below(3), 50 + below(51), 20 + below(81), below(10)};
                break;
            case Target.LIMIT:
                a = new int[] {4 + below(3), below(3), below(3 * scale), 0};
                break;
            case Target.DRAW:
                a = new int[] {4 + below(3), below(4), 0, 0};
                a[2] = 1 + below(1 + (int) Math.min(scale, house.call(Target.BASE, a[0], a[1], 0, 0)));
                break;
            case Target.PAY:
                a = new int[] {invoice, below(7), 1 + below(scale), 0};
                if (below(3) > 0) {
                    a[1] = known(house, invoice, 2, a[1]);
                }
                break;
            case Target.LUMP:
                a = new int[] {below(3), below(7), 1 + below(scale), 0};
                if (below(3) == 0) {
                    a[2] = Math.max(1, known(house, invoice, 0, 1));
                }
                break;
            case Target.BASE:
            case Target.DRAWN:
                a = new int[] {4 + below(3), below(4), 0, 0};
                break;
            case Target.FAIL:
            case Target.PURSE:
            case Target.BUYER:
                a = new int[] {below(5), 0, 0, 0};
                break;
            case Target.PASS:
                a = new int[] {1 + below(40), 0, 0, 0};
                break;
            case Target.CREDIT:
                a = new int[] {invoice, 1 + below(1 + scale / 4), 0, 0};
                break;
            case Target.DISPUTE:
                a = new int[] {invoice, below(2), 0, 0};
                break;
            default:
                a = new int[] {invoice, 4 + below(3), below(2), 0};
        }
        if (below(25) == 0) {
            a[below(4)] = strange();
        }
        return a;
    }

    private static int known(Target house, int invoice, int what, int otherwise) {
        String text = answer(house, Target.INVOICE_IS, new int[] {invoice, what, 0, 0});
        return text.startsWith("t") ? otherwise : Integer.parseInt(text);
    }

    private static int strange() {
        int[] values = {-1, 0, 1, 3, 4, 5, 6, 7, 40, 41, 100, 101, 300, 301, 1000000, 1000001,
            100000000, 100000001, Integer.MAX_VALUE, Integer.MIN_VALUE};
        return values[below(values.length)];
    }

    /** Also an object that is used for far too long throws nothing but what the face names. */
    private static void throwsOnlyItsOwn() {
        for (int run = 0; run < 8; run++) {
            seed = 77L + run;
            Target house = new Target.House();
            for (int i = 0; i < CALLS_BEYOND; i++) {
                int kind = below(Target.KINDS);
                int[] a = argumentsOf(kind, house, 1 + i);
                String got = answer(house, kind, a);
                boolean isAllowed = !got.startsWith("throws")
                        || got.equals("throws.java.lang.IndexOutOfBoundsException")
                        || got.equals("throws.java.lang.IllegalArgumentException")
                        || got.equals("throws.java.lang.IllegalStateException");
                Check.due("long run " + run + ", call " + i + ", kind " + kind + " " + got,
                        isAllowed, true);
            }
        }
    }
}
