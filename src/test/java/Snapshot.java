/** All that a house tells about itself without being changed by that. */
final class Snapshot {
    private Snapshot() {
    }

    static String of(FactorHouse house) {
        StringBuilder text = new StringBuilder();
        for (int invoice = 0; invoice < 40; invoice++) {
            int anew;
            try {
                anew = house.owedAnew(invoice);
            } catch (IndexOutOfBoundsException e) {
                break;
            }
            text.append("\ni").append(invoice);
            for (int what = 0; what <= 5; what++) {
                text.append(' ').append(house.invoiceIs(invoice, what));
            }
            text.append(' ').append(anew);
        }
        text.append("\npurses");
        for (int party = 0; party < 7; party++) {
            text.append(' ').append(house.purse(party));
        }
        for (int buyer = 0; buyer < 5; buyer++) {
            text.append(' ').append(house.buyer(buyer));
        }
        text.append(' ').append(house.balances()).append("\nbases");
        for (int factor = 4; factor < 7; factor++) {
            for (int seller = 0; seller < 4; seller++) {
                text.append(' ').append(house.base(factor, seller));
                text.append('/').append(house.drawn(factor, seller));
            }
        }
        return text.append("\nfinanced ").append(house.financed()).toString();
    }
}
