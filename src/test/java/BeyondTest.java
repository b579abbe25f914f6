/**
 * Behind the 512th call the answers are free, but LANGUAGE.md lets no call throw by itself even then:
 * an object is driven until its numbers wrap round, and each call still answers or refuses as told.
 */
public final class BeyondTest {
    private static final int MOST = 200000;

    private BeyondTest() {
    }

    public static void main(String[] args) {
        for (int mask = 0; mask < 16; mask++) {
            drive(mask);
        }
        Check.finish();
    }

    private static void drive(int mask) {
        Check.sentence("Nothing about an object after its 512th call, mask " + mask);
        NetPoints x = Start.full();
        x.setCrossed((mask & 1) != 0);
        x.setRates(0, (mask & 2) != 0 ? 10000 : 0, 10000, 2000);
        x.setRates(1, 0, 10000, (mask & 4) != 0 ? 2000 : 0);
        x.setFee(0, 0, (mask & 8) != 0 ? 10000 : 0);
        for (int round = 0; round < 9; round++) {
            int receipts = 0;
            for (int i = 0; i < 11000; i++) {
                receipts = x.receive(round % 2, 0, MOST);
                x.spend(1 - round % 2, MOST);
            }
            Check.holds("the numbers wrap round", round > 0 || receipts < 0);
            allAnswer(x);
            allRefuse(x);
            if (round % 3 == 2 && x.year() < 9) {
                x.closeYear();
            }
        }
    }

    private static void allAnswer(NetPoints x) {
        Check.takes("statements", () -> Told.statements(x, new StringBuilder()));
        for (int s = 0; s < 8; s++) {
            int payee = s;
            if (x.owed(s) > 0) {
                Check.takes("pay", () -> x.pay(payee));
            }
        }
        Check.takes("audit", () -> x.audit(0, x.year() - 1, 3, 1000000));
    }

    private static void allRefuse(NetPoints x) {
        for (int bad : new int[] {Integer.MIN_VALUE, -1, 10, Integer.MAX_VALUE}) {
            Check.fails("gross", Check.INDEX, () -> x.gross(bad));
            Check.fails("balance", Check.ARGUMENT, () -> x.balance(0, bad));
            Check.fails("owed", Check.INDEX, () -> x.owed(bad));
            Check.fails("pay", Check.INDEX, () -> x.pay(bad));
            Check.fails("audit", Check.STATE, () -> x.audit(1, bad, 0, 0));
        }
        Check.fails("add", Check.STATE, () -> x.add(0, NetPoints.BONUS, 0, 0, 0));
    }
}
