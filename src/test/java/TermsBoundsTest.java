/** Promises 1 to 5: each sentence that names a boundary case has a test of its own. */
public final class TermsBoundsTest {
    private static final int GROSS = NetPoints.GROSS;
    private static final int NET = NetPoints.NET;
    private static final int DEFERMENT = NetPoints.DEFERMENT;
    private static final int BONUS = NetPoints.BONUS;

    private TermsBoundsTest() {
    }

    public static void main(String[] args) {
        newNoReceiptsAndCosts();
        newAllRates0();
        newNoSharers();
        newNotCrossed();
        newYear0();
        setRatesPicture();
        setRatesTop();
        setRatesOverhead();
        setRatesInterest();
        setRatesForAllYears();
        setRatesThrowsTheFirst();
        setFeePicture();
        setFeeWindow();
        setFeeRate();
        setFeeForAllYears();
        setFeeReturnsTheRateBefore();
        setFeeThrowsTheFirst();
        setCrossedReturnsWhetherTheyWere();
        setCrossedInAllYears();
        addPicture();
        addKind();
        addLimit();
        addFirst();
        addSecond();
        addNothingDependsOnSecond();
        addReturnsItsNumber();
        addEightSharers();
        addNetTheWhole();
        addNetTheGreaterOfBothRates();
        addNetOfThisKindAndPicture();
        addThrowsTheFirst();
        Check.finish();
    }

    private static int mostRate(int kind) {
        return kind == GROSS ? 1000 : 10000;
    }

    private static void newNoReceiptsAndCosts() {
        Check.sentence("1: No receipts and costs");
        NetPoints x = Start.fresh();
        for (int p = 0; p < 2; p++) {
            Check.same("gross", x.gross(p), 0);
            Check.same("adjusted", x.adjusted(p), 0);
            Check.same("fees", x.fees(p), 0);
            Check.same("balance", x.balance(p, 0), 0);
            Check.same("profit", x.profit(p, 0), 0);
            Check.same("pool", x.pool(p), 0);
        }
        x.closeYear();
        for (int p = 0; p < 2; p++) {
            Check.same("costs of a later year", x.spend(p, 1), 1);
            for (int w = 0; w < 4; w++) {
                Check.same("receipts of a later year", x.receive(p, w, 1), 1);
                Check.same("receipts of the year 0", x.audit(p, 0, w, 1), 0);
            }
        }
        NetPoints other = Start.fresh();
        Check.same("nothing of another object", other.gross(0) + other.year(), 0);
    }

    private static void newAllRates0() {
        Check.sentence("1: all rates 0");
        NetPoints x = Start.fresh();
        for (int p = 0; p < 2; p++) {
            for (int w = 0; w < 4; w++) {
                Check.same("fee rate", x.setFee(p, w, 0), 0);
            }
            x.receive(p, 0, 100000);
            x.spend(p, 200000);
            Check.same("top rate", x.adjusted(p), 100000);
            Check.same("fee rates", x.fees(p), 0);
            Check.same("overhead rate and interest rate", x.balance(p, 0), 100000);
        }
    }

    private static void newNoSharers() {
        Check.sentence("1: no sharers");
        Check.same("sharers", Start.fresh().sharers(), 0);
        Check.refuses("sum", Check.INDEX, Start::fresh, x -> x.sum(0));
        Check.refuses("paid", Check.INDEX, Start::fresh, x -> x.paid(0));
        Check.refuses("owed", Check.INDEX, Start::fresh, x -> x.owed(0));
        Check.refuses("pay", Check.INDEX, Start::fresh, x -> x.pay(0));
    }

    private static void newNotCrossed() {
        Check.sentence("1: the pictures are not crossed");
        NetPoints x = Start.fresh();
        x.receive(0, 0, 100);
        x.spend(1, 100);
        Check.same("profit", x.profit(0, 0), 100);
        Check.same("balance", x.balance(1, 0), 100);
        Check.holds("were crossed", !x.setCrossed(true));
    }

    private static void newYear0() {
        Check.sentence("1: the year is 0");
        Check.same("year", Start.fresh().year(), 0);
        Check.same("the next year", Start.fresh().closeYear(), 1);
        Check.refuses("a balance of the year 1", Check.ARGUMENT, Start::fresh, x -> x.balance(0, 1));
        Check.refuses("an audit of the year 0", Check.STATE, Start::fresh, x -> x.audit(0, 0, 0, 0));
    }

    private static void setRatesPicture() {
        Check.sentence("2: picture: 0 or 1");
        Check.bounds("picture", Check.INDEX, 0, 1, Start::lively, (x, n) -> x.setRates(n, 21, 22, 23));
        Check.sentence("2: Sets rates of a picture");
        for (int p = 0; p < 2; p++) {
            NetPoints x = Start.fresh();
            x.setRates(p, 10000, 10000, 2000);
            x.receive(1 - p, 0, 5000);
            x.spend(1 - p, 6000);
            Check.same("top of the other", x.adjusted(1 - p), 5000);
            Check.same("overhead and interest of the other", x.balance(1 - p, 0), 1000);
        }
    }

    private static void setRatesTop() {
        Check.sentence("2: top: 0 to 10000");
        Check.bounds("top", Check.ARGUMENT, 0, 10000, Start::lively, (x, n) -> x.setRates(0, n, 22, 23));
        NetPoints x = Start.fresh();
        x.receive(1, 2, 10001);
        int[][] rows = {{10000, 0}, {9999, 2}, {1, 10000}, {0, 10001}};
        for (int[] row : rows) {
            x.setRates(1, row[0], 0, 0);
            Check.same("adjusted with " + row[0], x.adjusted(1), row[1]);
        }
    }

    private static void setRatesOverhead() {
        Check.sentence("2: overhead: 0 to 10000");
        Check.bounds("overhead", Check.ARGUMENT, 0, 10000, Start::lively,
            (x, n) -> x.setRates(1, 21, n, 23));
        NetPoints x = Start.fresh();
        x.spend(0, 10001);
        int[][] rows = {{10000, 20002}, {9999, 20000}, {1, 10002}, {0, 10001}};
        for (int[] row : rows) {
            x.setRates(0, 0, row[0], 0);
            Check.same("balance with " + row[0], x.balance(0, 0), row[1]);
        }
    }

    private static void setRatesInterest() {
        Check.sentence("2: interest: 0 to 2000");
        Check.bounds("interest", Check.ARGUMENT, 0, 2000, Start::lively,
            (x, n) -> x.setRates(0, 21, 22, n));
        NetPoints x = Start.fresh();
        x.spend(1, 10001);
        int[][] rows = {{2000, 12001}, {1999, 12000}, {1, 10002}, {0, 10001}};
        for (int[] row : rows) {
            x.setRates(1, 0, 0, row[0]);
            Check.same("balance with " + row[0], x.balance(1, 0), row[1]);
        }
    }

    private static void setRatesForAllYears() {
        Check.sentence("2: for all years");
        NetPoints x = Start.fresh();
        for (int year = 0; year < 10; year++) {
            x.receive(0, 0, 10000);
            x.spend(0, 20000);
            if (year < 9) {
                x.closeYear();
            }
        }
        x.setRates(0, 10000, 5000, 0);
        Check.same("adjusted of all years", x.adjusted(0), 0);
        Check.same("balance of the first year", x.balance(0, 0), 30000);
        Check.same("balance of the last year", x.balance(0, 9), 300000);
        x.setRates(0, 0, 0, 0);
        Check.same("adjusted of all years again", x.adjusted(0), 100000);
        Check.same("balance of the last year again", x.balance(0, 9), 100000);
        NetPoints before = Start.fresh();
        before.setRates(0, 2500, 0, 0);
        before.closeYear();
        before.receive(0, 0, 10000);
        Check.same("set ahead of the year", before.adjusted(0), 7500);
    }

    private static void setRatesThrowsTheFirst() {
        Check.sentence("2: Throws picture, then another argument");
        int[] good = {0, 21, 22, 23};
        int[][] bad = {{-1, -1, -1, -1}, {2, 10001, 10001, 2001}};
        for (int mask = 1; mask < 16; mask++) {
            Class<? extends RuntimeException> due = (mask & 1) != 0 ? Check.INDEX : Check.ARGUMENT;
            for (int[] row : bad) {
                int[] a = Check.mix(mask, good, row);
                Check.refuses("mix " + mask, due, Start::lively,
                    x -> x.setRates(a[0], a[1], a[2], a[3]));
            }
        }
    }

    private static void setFeePicture() {
        Check.sentence("3: picture: 0 or 1");
        Check.bounds("picture", Check.INDEX, 0, 1, Start::lively, (x, n) -> x.setFee(n, 1, 21));
        NetPoints x = Start.fresh();
        x.setFee(0, 1, 10000);
        x.receive(0, 1, 5);
        x.receive(1, 1, 6);
        Check.same("fees of the picture", x.fees(0), 5);
        Check.same("fees of the other picture", x.fees(1), 0);
    }

    private static void setFeeWindow() {
        Check.sentence("3: window: 0 to 3");
        Check.bounds("window", Check.INDEX, 0, 3, Start::lively, (x, n) -> x.setFee(1, n, 21));
        for (int w = 0; w < 4; w++) {
            NetPoints x = Start.fresh();
            x.setFee(1, w, 10000);
            for (int other = 0; other < 4; other++) {
                x.receive(1, other, 1 << other);
            }
            Check.same("fees of the window " + w + " alone", x.fees(1), 1 << w);
        }
    }

    private static void setFeeRate() {
        Check.sentence("3: rate: 0 to 10000");
        Check.bounds("rate", Check.ARGUMENT, 0, 10000, Start::lively, (x, n) -> x.setFee(0, 0, n));
        NetPoints x = Start.fresh();
        x.receive(0, 3, 10001);
        int[][] rows = {{10000, 10001}, {9999, 9999}, {1, 1}, {0, 0}};
        for (int[] row : rows) {
            x.setFee(0, 3, row[0]);
            Check.same("fees with " + row[0], x.fees(0), row[1]);
        }
    }

    private static void setFeeForAllYears() {
        Check.sentence("3: for all years");
        NetPoints x = Start.fresh();
        x.setFee(0, 0, 1);
        for (int year = 0; year < 10; year++) {
            x.receive(0, 0, 10000);
            if (year < 9) {
                x.closeYear();
            }
        }
        Check.same("set ahead of the years", x.fees(0), 10);
        x.setFee(0, 0, 10000);
        Check.same("set behind the years", x.fees(0), 100000);
        Check.same("no profit of the first year", x.profit(0, 0), 0);
        Check.same("no profit of the last year", x.profit(0, 9), 0);
    }

    private static void setFeeReturnsTheRateBefore() {
        Check.sentence("3: Returns the rate before");
        NetPoints x = Start.fresh();
        Check.same("at first", x.setFee(1, 3, 10000), 0);
        Check.same("the greatest", x.setFee(1, 3, 10000), 10000);
        Check.same("the same again", x.setFee(1, 3, 1), 10000);
        Check.fails("refused", Check.ARGUMENT, () -> x.setFee(1, 3, 10001));
        x.closeYear();
        Check.same("of an earlier year, behind a refusal", x.setFee(1, 3, 0), 1);
        Check.same("the least", x.setFee(1, 3, 5), 0);
        Check.same("another window", x.setFee(1, 2, 5), 0);
        Check.same("another picture", x.setFee(0, 3, 5), 0);
    }

    private static void setFeeThrowsTheFirst() {
        Check.sentence("3: Throws picture or window, then rate");
        int[] good = {0, 3, 21};
        int[][] bad = {{-1, -1, -1}, {2, 4, 10001}};
        for (int mask = 1; mask < 8; mask++) {
            Class<? extends RuntimeException> due = (mask & 3) != 0 ? Check.INDEX : Check.ARGUMENT;
            for (int[] row : bad) {
                int[] a = Check.mix(mask, good, row);
                Check.refuses("mix " + mask, due, Start::lively, x -> x.setFee(a[0], a[1], a[2]));
            }
        }
    }

    private static void setCrossedReturnsWhetherTheyWere() {
        Check.sentence("4: Returns whether they were");
        NetPoints x = Start.fresh();
        Check.holds("at first they were not", !x.setCrossed(false));
        Check.holds("they were not", !x.setCrossed(true));
        Check.holds("they were", x.setCrossed(true));
        x.closeYear();
        Check.holds("they were, in an earlier year", x.setCrossed(false));
        Check.holds("they were not any more", !x.setCrossed(false));
    }

    private static void setCrossedInAllYears() {
        Check.sentence("4: Says whether the pictures are crossed, in all years");
        NetPoints x = Start.fresh();
        for (int year = 0; year < 10; year++) {
            x.receive(0, 0, 10);
            x.spend(1, 10);
            if (year < 9) {
                x.closeYear();
            }
        }
        for (int year = 0; year < 10; year++) {
            x.setCrossed(true);
            Check.same("crossed, the profit", x.profit(0, year), 0);
            Check.same("crossed, the balance", x.balance(1, year), 0);
            x.setCrossed(false);
            Check.same("not crossed, the profit", x.profit(0, year), 10 * (year + 1));
            Check.same("not crossed, the balance", x.balance(1, year), 10 * (year + 1));
        }
    }

    private static void addPicture() {
        Check.sentence("5: picture: 0 or 1");
        for (int kind = GROSS; kind <= BONUS; kind++) {
            int k = kind;
            Check.bounds("picture, kind " + k, Check.INDEX, 0, 1, Start::lively,
                (x, n) -> x.add(n, k, 10, 20, 30));
        }
        NetPoints x = Start.fresh();
        x.add(0, GROSS, 0, 0, 1000);
        x.add(1, GROSS, 0, 0, 1000);
        x.receive(0, 0, 100);
        x.receive(1, 0, 70);
        Check.same("of the picture 0", x.sum(0), 10);
        Check.same("of the picture 1", x.sum(1), 7);
    }

    private static void addKind() {
        Check.sentence("5: kind: GROSS, NET, DEFERMENT or BONUS");
        Check.bounds("kind", Check.ARGUMENT, GROSS, BONUS, Start::lively,
            (x, n) -> x.add(0, n, 10, 20, 30));
        NetPoints x = Start.fresh();
        for (int kind = GROSS; kind <= BONUS; kind++) {
            x.add(0, kind, 100, 1000, 0);
        }
        x.receive(0, 0, 200000);
        Check.same("GROSS", x.sum(GROSS), 10);
        Check.same("NET", x.sum(NET), 10);
        Check.same("DEFERMENT", x.sum(DEFERMENT), 100);
        Check.same("BONUS", x.sum(BONUS), 100000);
    }

    private static void addLimit() {
        Check.sentence("5: limit: 0 to 10000000");
        for (int kind = GROSS; kind <= BONUS; kind++) {
            int k = kind;
            Check.bounds("limit, kind " + k, Check.ARGUMENT, 0, 10000000, Start::lively,
                (x, n) -> x.add(0, k, n, 20, 30));
        }
        NetPoints x = Start.fresh();
        x.add(0, BONUS, 10000000, 1, 0);
        x.add(0, BONUS, 0, 1, 0);
        Check.same("the greatest is not reached by nothing", x.sum(0), 0);
        Check.same("the least is reached by nothing", x.sum(1), 100);
    }

    private static void addFirst() {
        Check.sentence("5: first: 0 to 10000; of the kind GROSS 0 to 1000");
        for (int kind = GROSS; kind <= BONUS; kind++) {
            int k = kind;
            Check.bounds("first, kind " + k, Check.ARGUMENT, 0, mostRate(k), Start::fresh,
                (x, n) -> x.add(1, k, 10, n, 30));
        }
        NetPoints x = Start.fresh();
        x.add(0, GROSS, 10000000, 1000, 0);
        x.add(0, GROSS, 10000000, 0, 1000);
        x.add(1, NET, 10000000, 10000, 0);
        x.add(1, NET, 10000000, 0, 0);
        sumsAtTheEnds(x);
    }

    private static void addSecond() {
        Check.sentence("5: second: 0 to 10000; of the kind GROSS 0 to 1000");
        for (int kind = GROSS; kind <= BONUS; kind++) {
            int k = kind;
            Check.bounds("second, kind " + k, Check.ARGUMENT, 0, mostRate(k), Start::fresh,
                (x, n) -> x.add(1, k, 10, 30, n));
        }
        NetPoints x = Start.fresh();
        x.add(0, GROSS, 0, 0, 1000);
        x.add(0, GROSS, 0, 1000, 0);
        x.add(1, NET, 0, 0, 10000);
        x.add(1, NET, 0, 0, 0);
        sumsAtTheEnds(x);
    }

    private static void sumsAtTheEnds(NetPoints x) {
        x.receive(0, 0, 990);
        x.receive(1, 0, 990);
        Check.same("GROSS, the greatest", x.sum(0), 99);
        Check.same("GROSS, the least", x.sum(1), 0);
        Check.same("NET, the greatest", x.sum(2), 990);
        Check.same("NET, the least", x.sum(3), 0);
    }

    private static void addNothingDependsOnSecond() {
        Check.sentence("5: of the kinds DEFERMENT and BONUS nothing depends on it");
        for (int kind = DEFERMENT; kind <= BONUS; kind++) {
            NetPoints least = Start.lively();
            NetPoints greatest = Start.lively();
            least.add(0, kind, 100, 7, 0);
            greatest.add(0, kind, 100, 7, 10000);
            Check.holds("kind " + kind, Told.everything(least).equals(Told.everything(greatest)));
        }
    }

    private static void addReturnsItsNumber() {
        Check.sentence("5: Returns its number; numbered from 0");
        NetPoints x = Start.fresh();
        for (int i = 0; i < 8; i++) {
            Check.fails("refused", Check.ARGUMENT, () -> x.add(0, BONUS, -1, 0, 0));
            Check.same("number", x.add(i % 2, i % 4, 0, 0, 0), i);
        }
    }

    private static void addEightSharers() {
        Check.sentence("5: Throws IllegalStateException if there are 8 sharers");
        for (int kind = GROSS; kind <= BONUS; kind++) {
            int k = kind;
            NetPoints seven = Start.fresh();
            for (int i = 0; i < 7; i++) {
                seven.add(0, k, 0, 0, 0);
            }
            Check.same("the eighth, kind " + k, seven.add(1, k, 0, 0, 0), 7);
            Check.fails("the ninth", Check.STATE, () -> seven.add(1, k, 0, 0, 0));
            Check.refuses("kind " + k + " of 0", Check.STATE, Start::full, x -> x.add(0, k, 0, 0, 0));
            Check.refuses("kind " + k + " of 1", Check.STATE, Start::full, x -> x.add(1, k, 0, 0, 0));
        }
    }

    private static void addNetTheWhole() {
        Check.sentence("5: of the kind NET: added, would be above 10000");
        NetPoints one = Start.fresh();
        Check.same("one sharer with the whole", one.add(0, NET, 0, 10000, 10000), 0);
        Check.same("another with nothing", one.add(0, NET, 0, 0, 0), 1);
        Check.fails("above by 1", Check.STATE, () -> one.add(0, NET, 0, 1, 0));
        // Of the lively object's picture 0 a half is given away, of its picture 1 three quarters.
        Check.takes("just 10000 of 0", () -> Start.lively().add(0, NET, 0, 5000, 5000));
        Check.takes("just 10000 of 1", () -> Start.lively().add(1, NET, 0, 2500, 2500));
        Check.refuses("10001 of 0", Check.STATE, Start::lively, x -> x.add(0, NET, 0, 5001, 0));
        Check.refuses("10001 of 1", Check.STATE, Start::lively, x -> x.add(1, NET, 0, 0, 2501));
        Check.refuses("the most", Check.STATE, Start::lively, x -> x.add(1, NET, 0, 10000, 10000));
        NetPoints x = Start.fresh();
        for (int i = 0; i < 7; i++) {
            x.add(0, NET, 0, 1250, 1250);
        }
        Check.fails("eight of them, above by 1", Check.STATE, () -> x.add(0, NET, 0, 1251, 0));
        Check.same("a refused one counts for nothing", x.add(0, NET, 0, 1250, 1250), 7);
    }

    private static void addNetTheGreaterOfBothRates() {
        Check.sentence("5: of the kind NET: the greater of both rates and those of all others");
        NetPoints x = Start.fresh();
        x.add(0, NET, 0, 6000, 1);
        x.add(0, NET, 0, 1, 3000);
        Check.fails("above by the first", Check.STATE, () -> x.add(0, NET, 0, 1001, 0));
        Check.fails("above by the second", Check.STATE, () -> x.add(0, NET, 0, 0, 1001));
        Check.same("the greater, not both", x.add(0, NET, 0, 1000, 1000), 2);
    }

    private static void addNetOfThisKindAndPicture() {
        Check.sentence("5: of the kind NET: of this kind and picture");
        NetPoints x = Start.fresh();
        x.add(0, GROSS, 0, 1000, 1000);
        x.add(0, DEFERMENT, 0, 10000, 10000);
        x.add(0, BONUS, 0, 10000, 10000);
        x.add(1, NET, 0, 10000, 10000);
        Check.same("no others of this kind and picture", x.add(0, NET, 0, 10000, 10000), 4);
        Check.same("GROSS beside the whole of NET", x.add(0, GROSS, 0, 1000, 1000), 5);
        Check.same("DEFERMENT beside the whole of NET", x.add(0, DEFERMENT, 0, 10000, 1), 6);
        Check.same("BONUS beside the whole of NET", x.add(0, BONUS, 0, 10000, 1), 7);
    }

    private static void addThrowsTheFirst() {
        Check.sentence("5: Throws picture, then another argument, then the state");
        // Of the kind NET even the good arguments would give away more than the whole.
        int[] net = {0, NET, 0, 9999, 9999};
        int[] gross = {0, GROSS, 0, 1000, 1000};
        int[] below = {-1, -1, -1, -1, -1};
        for (int mask = 1; mask < 32; mask++) {
            addRefuses(mask, Check.mix(mask, net, below));
            addRefuses(mask, Check.mix(mask, net, new int[] {2, 4, 10000001, 10001, 10001}));
            addRefuses(mask, Check.mix(mask, gross, below));
            addRefuses(mask, Check.mix(mask, gross, new int[] {2, 4, 10000001, 1001, 1001}));
        }
        Check.refuses("both states", Check.STATE, Start::full, x -> x.add(0, NET, 0, 9999, 9999));
    }

    private static void addRefuses(int mask, int[] a) {
        Class<? extends RuntimeException> due = (mask & 1) != 0 ? Check.INDEX : Check.ARGUMENT;
        Check.refuses("mix " + mask, due, Start::lively, x -> x.add(a[0], a[1], a[2], a[3], a[4]));
        Check.refuses("mix " + mask + " of eight", due, Start::full,
            x -> x.add(a[0], a[1], a[2], a[3], a[4]));
    }
}
