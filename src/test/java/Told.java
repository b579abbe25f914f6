/** All that can be found out of an object, as one text, so that two objects can be compared. */
final class Told {
    private Told() {
    }

    /**
     * Statements hide some of what an object holds (fee rates without receipts, say), so the object is
     * also moved on, its terms are put back to 0, and its answers are told: it is used up by this.
     */
    static String everything(NetPoints x) {
        StringBuilder text = new StringBuilder();
        statements(x, text);
        text.append(" crossed ").append(x.setCrossed(false));
        moveOn(x, text);
        statements(x, text);
        putBack(x, text);
        payAll(x, text);
        text.append(" sharers ");
        while (x.sharers() < 8) {
            text.append(x.add(1, NetPoints.BONUS, 0, 1, 0)).append(' ');
        }
        if (x.year() < 9) {
            text.append(" year ").append(x.closeYear());
        }
        statements(x, text);
        return text.toString();
    }

    static void statements(NetPoints x, StringBuilder text) {
        int now = x.year();
        int sharers = x.sharers();
        text.append("\nyear ").append(now).append(", sharers ").append(sharers);
        for (int p = 0; p < 2; p++) {
            text.append(", picture ").append(x.gross(p)).append(' ').append(x.adjusted(p)).append(' ')
                .append(x.fees(p)).append(' ').append(x.pool(p));
            for (int y = 0; y <= now; y++) {
                text.append(' ').append(x.balance(p, y)).append(' ').append(x.profit(p, y));
            }
        }
        for (int s = 0; s < sharers; s++) {
            text.append(", sharer ").append(x.sum(s)).append(' ').append(x.paid(s)).append(' ')
                .append(x.owed(s));
        }
    }

    private static void moveOn(NetPoints x, StringBuilder text) {
        for (int p = 0; p < 2; p++) {
            text.append(" costs ").append(x.spend(p, 30011));
            for (int w = 0; w < 4; w++) {
                text.append(" receipts ").append(x.receive(p, w, 20011));
            }
        }
    }

    private static void putBack(NetPoints x, StringBuilder text) {
        for (int p = 0; p < 2; p++) {
            for (int w = 0; w < 4; w++) {
                text.append(" fee rate ").append(x.setFee(p, w, 0));
                for (int y = Math.max(0, x.year() - 3); y < x.year(); y++) {
                    text.append(" audited ").append(x.audit(p, y, w, 7));
                }
            }
        }
    }

    private static void payAll(NetPoints x, StringBuilder text) {
        for (int s = 0; s < x.sharers(); s++) {
            text.append(" pays ").append(x.owed(s) > 0 ? x.pay(s) : 0);
        }
    }
}
