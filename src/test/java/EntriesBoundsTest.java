/** Promises 6 to 10: each sentence that names a boundary case has a test of its own. */
public final class EntriesBoundsTest {
    private static final int GROSS = NetPoints.GROSS;
    private static final int NET = NetPoints.NET;
    private static final int DEFERMENT = NetPoints.DEFERMENT;
    private static final int BONUS = NetPoints.BONUS;

    private EntriesBoundsTest() {
    }

    public static void main(String[] args) {
        receivePicture();
        receiveWindow();
        receiveAmount();
        receiveInTheYearOfNow();
        receiveReturnsAllReceipts();
        receiveThrowsTheFirst();
        spendPicture();
        spendAmount();
        spendInTheYearOfNow();
        spendReturnsAllCosts();
        spendThrowsTheFirst();
        auditPicture();
        auditWindow();
        auditYear();
        auditYearIsNotClosed();
        auditYearIsTooLongAgo();
        auditAmount();
        auditPutsReceiptsRight();
        auditReturnsWhatTheyWere();
        auditThrowsTheFirst();
        closeYearBeginsTheNext();
        closeYearThrowsInTheLast();
        paySharer();
        payThrowsIfNothingIsOwed();
        payThrowsIfLessThan0IsOwed();
        payReturnsWhatIsPaid();
        payIsNoCost();
        Check.finish();
    }

    private static void receivePicture() {
        Check.sentence("6: picture: 0 or 1");
        Check.bounds("picture", Check.INDEX, 0, 1, Start::lively, (x, n) -> x.receive(n, 0, 7));
        NetPoints x = Start.fresh();
        x.receive(0, 0, 7);
        Check.same("of the picture", x.gross(0), 7);
        Check.same("of the other", x.gross(1), 0);
    }

    private static void receiveWindow() {
        Check.sentence("6: window: 0 to 3");
        Check.bounds("window", Check.INDEX, 0, 3, Start::lively, (x, n) -> x.receive(1, n, 7));
    }

    private static void receiveAmount() {
        Check.sentence("6: amount: 1 to 200000");
        Check.bounds("amount", Check.ARGUMENT, 1, 200000, Start::lively, (x, n) -> x.receive(0, 3, n));
        NetPoints x = Start.fresh();
        Check.same("the least", x.receive(0, 0, 1), 1);
        Check.same("the greatest", x.receive(1, 3, 200000), 200000);
        Check.fails("none", Check.ARGUMENT, () -> x.receive(0, 0, 0));
        Check.fails("one too many", Check.ARGUMENT, () -> x.receive(1, 3, 200001));
        Check.same("the least came in", x.gross(0), 1);
        Check.same("the greatest came in", x.gross(1), 200000);
    }

    private static void receiveInTheYearOfNow() {
        Check.sentence("6: Receipts come in, in the year of now");
        NetPoints x = Start.fresh();
        for (int year = 0; year < 10; year++) {
            Check.same("a new year begins with none", x.receive(0, 0, year + 1), year + 1);
            Check.same("the year of now", x.profit(0, year), (year + 1) * (year + 2) / 2);
            if (year > 0) {
                Check.same("the year before", x.profit(0, year - 1), year * (year + 1) / 2);
            }
            if (year < 9) {
                x.closeYear();
            }
        }
        Check.same("the last year", x.receive(0, 0, 5), 15);
    }

    private static void receiveReturnsAllReceipts() {
        Check.sentence("6: Returns all receipts of this window in this year then");
        NetPoints x = Start.fresh();
        for (int p = 0; p < 2; p++) {
            for (int w = 0; w < 4; w++) {
                Check.same("the first", x.receive(p, w, 10 + w), 10 + w);
                Check.same("the second, added", x.receive(p, w, 200000), 200010 + w);
            }
        }
        NetPoints most = Start.fresh();
        Start.receive(most, 1, 2, 511, 200000);
        Check.same("the most that 512 calls can bring", most.receive(1, 2, 200000), 102400000);
    }

    private static void receiveThrowsTheFirst() {
        Check.sentence("6: Throws picture or window, then amount");
        int[] good = {1, 3, 7};
        int[][] bad = {{-1, -1, 0}, {2, 4, 200001}};
        for (int mask = 1; mask < 8; mask++) {
            Class<? extends RuntimeException> due = (mask & 3) != 0 ? Check.INDEX : Check.ARGUMENT;
            for (int[] row : bad) {
                int[] a = Check.mix(mask, good, row);
                Check.refuses("mix " + mask, due, Start::lively, x -> x.receive(a[0], a[1], a[2]));
            }
        }
    }

    private static void spendPicture() {
        Check.sentence("7: picture: 0 or 1");
        Check.bounds("picture", Check.INDEX, 0, 1, Start::lively, (x, n) -> x.spend(n, 7));
        NetPoints x = Start.fresh();
        x.spend(1, 7);
        Check.same("of the picture", x.balance(1, 0), 7);
        Check.same("of the other", x.balance(0, 0), 0);
    }

    private static void spendAmount() {
        Check.sentence("7: amount: 1 to 200000");
        Check.bounds("amount", Check.ARGUMENT, 1, 200000, Start::lively, (x, n) -> x.spend(1, n));
        NetPoints x = Start.fresh();
        Check.same("the least", x.spend(0, 1), 1);
        Check.same("the greatest", x.spend(1, 200000), 200000);
        Check.fails("none", Check.ARGUMENT, () -> x.spend(0, 0));
        Check.fails("one too many", Check.ARGUMENT, () -> x.spend(1, 200001));
        Check.same("the least was spent", x.balance(0, 0), 1);
        Check.same("the greatest was spent", x.balance(1, 0), 200000);
    }

    private static void spendInTheYearOfNow() {
        Check.sentence("7: Costs are spent, in the year of now");
        NetPoints x = Start.fresh();
        for (int year = 0; year < 10; year++) {
            Check.same("a new year begins with none", x.spend(0, year + 1), year + 1);
            Check.same("the year of now", x.balance(0, year), (year + 1) * (year + 2) / 2);
            if (year > 0) {
                Check.same("the year before", x.balance(0, year - 1), year * (year + 1) / 2);
            }
            if (year < 9) {
                x.closeYear();
            }
        }
        Check.same("the last year", x.spend(0, 5), 15);
    }

    private static void spendReturnsAllCosts() {
        Check.sentence("7: Returns all costs of this year then");
        NetPoints x = Start.fresh();
        for (int p = 0; p < 2; p++) {
            Check.same("the first", x.spend(p, 10 + p), 10 + p);
            Check.same("the second, added", x.spend(p, 200000), 200010 + p);
        }
        NetPoints most = Start.fresh();
        for (int i = 1; i <= 512; i++) {
            Check.same("up to the most that 512 calls can bring", most.spend(0, 200000), 200000 * i);
        }
    }

    private static void spendThrowsTheFirst() {
        Check.sentence("7: Throws picture, then amount");
        for (int picture : new int[] {-1, 2}) {
            for (int amount : new int[] {Integer.MIN_VALUE, -1, 0, 200001, Integer.MAX_VALUE}) {
                Check.refuses("both", Check.INDEX, Start::lively, x -> x.spend(picture, amount));
            }
        }
    }

    private static void auditPicture() {
        Check.sentence("8: picture: 0 or 1");
        Check.bounds("picture", Check.INDEX, 0, 1, Start::lively, (x, n) -> x.audit(n, 1, 0, 77));
    }

    private static void auditWindow() {
        Check.sentence("8: window: 0 to 3");
        Check.bounds("window", Check.INDEX, 0, 3, Start::lively, (x, n) -> x.audit(1, 1, n, 77));
    }

    private static void auditYear() {
        Check.sentence("8: year: from 3 years before that of now, or 0, to 1 year before");
        for (int now = 1; now < 10; now++) {
            int year = now;
            Check.bounds("year " + now, Check.STATE, Math.max(0, now - 3), now - 1,
                () -> Start.inYear(year), (x, n) -> x.audit(0, n, 0, 77));
        }
    }

    private static void auditYearIsNotClosed() {
        Check.sentence("8: Throws IllegalStateException if the year is not closed");
        Check.refuses("no year is closed yet", Check.STATE, Start::fresh, x -> x.audit(0, 0, 0, 0));
        for (int now = 0; now < 10; now++) {
            int year = now;
            for (int open = now; open < 12; open++) {
                int later = open;
                Check.refuses("the year " + open, Check.STATE, () -> Start.inYear(year),
                    x -> x.audit(1, later, 3, 5));
            }
            Check.takes("once it is closed", () -> Start.inYear(year % 9 + 1).audit(1, year % 9, 3, 5));
        }
    }

    private static void auditYearIsTooLongAgo() {
        Check.sentence("8: Throws IllegalStateException if the year is too long ago");
        for (int now = 0; now < 10; now++) {
            int year = now;
            for (int ago = now - 4; ago >= -4; ago--) {
                int earlier = ago;
                Check.refuses("the year " + ago, Check.STATE, () -> Start.inYear(year),
                    x -> x.audit(1, earlier, 3, 5));
            }
        }
        NetPoints x = Start.fresh();
        x.receive(0, 0, 40);
        for (int i = 0; i < 3; i++) {
            x.closeYear();
        }
        Check.same("3 years ago", x.audit(0, 0, 0, 50), 40);
        x.closeYear();
        Check.fails("4 years ago", Check.STATE, () -> x.audit(0, 0, 0, 60));
        Check.same("it stays as it was put right", x.gross(0), 50);
    }

    private static void auditAmount() {
        Check.sentence("8: amount: 0 to 1000000");
        Check.bounds("amount", Check.ARGUMENT, 0, 1000000, Start::lively, (x, n) -> x.audit(0, 0, 0, n));
        NetPoints x = Start.inYear(1);
        x.audit(0, 0, 1, 1000000);
        Check.same("the greatest", x.gross(0), 1000000);
        x.audit(0, 0, 1, 0);
        Check.same("the least", x.gross(0), 0);
    }

    private static void auditPutsReceiptsRight() {
        Check.sentence("8: An audit puts the receipts of a window in a closed year right");
        NetPoints x = Start.fresh();
        x.receive(0, 0, 100);
        x.receive(0, 1, 20);
        x.closeYear();
        x.receive(0, 0, 3);
        x.closeYear();
        x.audit(0, 0, 0, 500);
        Check.same("what they are, not what comes in too", x.profit(0, 0), 520);
        Check.same("the year behind it keeps its own", x.profit(0, 1), 523);
        Check.same("the other picture keeps its own", x.gross(1), 0);
        x.audit(0, 1, 3, 7);
        Check.same("a window without receipts", x.profit(0, 1), 530);
        Check.same("the year ahead keeps its own", x.profit(0, 0), 520);
        Check.same("the year of now begins with none", x.receive(0, 0, 1), 1);
        Check.same("the year of now begins with none", x.receive(0, 3, 1), 1);
    }

    private static void auditReturnsWhatTheyWere() {
        Check.sentence("8: Returns what they were");
        NetPoints x = Start.fresh();
        x.receive(1, 2, 40);
        x.receive(1, 2, 2);
        x.closeYear();
        Check.same("receipts", x.audit(1, 0, 2, 1000000), 42);
        Check.same("the greatest", x.audit(1, 0, 2, 1000000), 1000000);
        Check.same("the same again", x.audit(1, 0, 2, 0), 1000000);
        Check.fails("refused", Check.ARGUMENT, () -> x.audit(1, 0, 2, 1000001));
        Check.same("the least, behind a refusal", x.audit(1, 0, 2, 5), 0);
        Check.same("another window", x.audit(1, 0, 3, 5), 0);
        Check.same("another picture", x.audit(0, 0, 2, 5), 0);
        x.closeYear();
        Check.same("another year", x.audit(1, 1, 2, 5), 0);
    }

    private static void auditThrowsTheFirst() {
        Check.sentence("8: Throws picture or window, then amount, then year");
        int[] good = {1, 3, 77, 6};
        int[][] bad = {{-1, -1, -1, -1}, {2, 4, 1000001, 9}, {2, -1, 1000001, 5}};
        for (int mask = 1; mask < 16; mask++) {
            Class<? extends RuntimeException> due = (mask & 3) != 0 ? Check.INDEX
                : (mask & 4) != 0 ? Check.ARGUMENT : Check.STATE;
            for (int[] row : bad) {
                int[] a = Check.mix(mask, good, row);
                Check.refuses("mix " + mask, due, () -> Start.inYear(9),
                    x -> x.audit(a[0], a[3], a[1], a[2]));
            }
        }
    }

    private static void closeYearBeginsTheNext() {
        Check.sentence("9: Begins the next year. Returns the year then");
        NetPoints x = Start.fresh();
        for (int year = 1; year < 10; year++) {
            Check.same("answer", x.closeYear(), year);
            Check.same("year", x.year(), year);
            Check.same("a year with nothing", x.balance(0, year), 0);
        }
    }

    private static void closeYearThrowsInTheLast() {
        Check.sentence("9: Throws IllegalStateException if the year is 9");
        Check.takes("the year 8", () -> Start.inYear(8).closeYear());
        Check.refuses("the year 9", Check.STATE, () -> Start.inYear(9), x -> x.closeYear());
        NetPoints x = Start.inYear(9);
        for (int i = 0; i < 3; i++) {
            Check.fails("again", Check.STATE, () -> x.closeYear());
        }
        Check.same("the year stays", x.year(), 9);
        Check.same("the last year takes receipts", x.receive(0, 0, 5), 5);
        Check.same("the last year takes costs", x.spend(0, 9), 9);
        Check.same("the last year has a balance", x.balance(0, 9), 4);
    }

    private static void paySharer() {
        Check.sentence("10: Throws IndexOutOfBoundsException if there is no such sharer");
        Check.refuses("no sharer at all", Check.INDEX, Start::fresh, x -> x.pay(0));
        NetPoints x = Start.fresh();
        for (int s = 0; s < 8; s++) {
            int next = s;
            Check.fails("not yet added", Check.INDEX, () -> x.pay(next));
            x.add(s % 2, BONUS, 0, s + 1, 0);
            Check.same("the newest", x.pay(s), 100 * (s + 1));
        }
        for (int bad : new int[] {-1, 8, Integer.MIN_VALUE, Integer.MAX_VALUE}) {
            Check.refuses("of eight: " + bad, Check.INDEX, Start::full, y -> y.pay(bad));
        }
        Check.refuses("of five", Check.INDEX, Start::lively, y -> y.pay(5));
    }

    private static void payThrowsIfNothingIsOwed() {
        Check.sentence("10: Throws IllegalStateException if nothing is owed");
        for (int kind = GROSS; kind <= BONUS; kind++) {
            int k = kind;
            Check.refuses("nothing yet, kind " + k, Check.STATE, () -> withOne(k), x -> x.pay(0));
            Check.refuses("all is paid, kind " + k, Check.STATE, () -> paidOne(k), x -> x.pay(0));
        }
        NetPoints x = Start.fresh();
        x.add(0, NET, 0, 10000, 10000);
        x.receive(0, 0, 1);
        Check.same("the least that is owed", x.pay(0), 1);
        Check.fails("nothing is left", Check.STATE, () -> x.pay(0));
    }

    private static NetPoints withOne(int kind) {
        NetPoints x = new NetPoints();
        x.add(0, kind, 500, 1000, 0);
        return x;
    }

    private static NetPoints paidOne(int kind) {
        NetPoints x = withOne(kind);
        x.receive(0, 0, 200000);
        x.pay(0);
        return x;
    }

    private static NetPoints overpaid(int kind, int audited) {
        NetPoints x = paidOne(kind);
        x.closeYear();
        x.audit(0, 0, 0, audited);
        return x;
    }

    private static void payThrowsIfLessThan0IsOwed() {
        Check.sentence("10: Throws IllegalStateException if less than 0 is owed");
        for (int kind = GROSS; kind <= BONUS; kind++) {
            int k = kind;
            Check.refuses("an audit took it all, kind " + k, Check.STATE, () -> overpaid(k, 0),
                x -> x.pay(0));
        }
        Check.same("1 too much", overpaid(DEFERMENT, 499).owed(0), -1);
        Check.refuses("1 too much", Check.STATE, () -> overpaid(DEFERMENT, 499), x -> x.pay(0));
        NetPoints x = overpaid(DEFERMENT, 499);
        x.audit(0, 0, 0, 500);
        Check.fails("put right, nothing is owed", Check.STATE, () -> x.pay(0));
        Check.same("what was paid stays", x.paid(0), 500);
    }

    private static void payReturnsWhatIsPaid() {
        Check.sentence("10: Pays a sharer what is owed. Returns what is paid");
        NetPoints x = Start.fresh();
        x.add(0, NET, 10000000, 10000, 0);
        x.add(0, DEFERMENT, 30, 0, 0);
        x.receive(0, 0, 100);
        Check.same("all", x.pay(0), 70);
        x.receive(0, 0, 1);
        Check.same("the rest, 1", x.pay(0), 1);
        Check.same("the other keeps its own", x.owed(1), 30);
        x.closeYear();
        x.receive(0, 0, 200000);
        Check.same("in a later year", x.pay(0), 200000);
        x.audit(0, 0, 0, 1000000);
        Check.same("what an audit found", x.pay(0), 999899);
        Check.same("nothing more is owed", x.owed(0), 0);
        NetPoints most = Start.fresh();
        most.add(1, NET, 0, 10000, 10000);
        Start.receive(most, 1, 3, 510, 200000);
        Check.same("the most that 512 calls can bring", most.pay(0), 102000000);
    }

    private static void payIsNoCost() {
        Check.sentence("10: a payment changes only what was paid");
        for (int kind = GROSS; kind <= BONUS; kind++) {
            NetPoints x = withOne(kind);
            x.receive(0, 0, 200000);
            int profit = x.profit(0, 0);
            int pool = x.pool(0);
            int sum = x.sum(0);
            x.pay(0);
            Check.same("profit", x.profit(0, 0), profit);
            Check.same("pool", x.pool(0), pool);
            Check.same("sum", x.sum(0), sum);
        }
    }
}
