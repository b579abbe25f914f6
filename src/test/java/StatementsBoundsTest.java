import java.util.function.ToIntBiFunction;

/** Promises 11 to 21: each sentence that names a boundary case has a test of its own. */
public final class StatementsBoundsTest {
    private static final int GROSS = NetPoints.GROSS;
    private static final int NET = NetPoints.NET;
    private static final int DEFERMENT = NetPoints.DEFERMENT;
    private static final int BONUS = NetPoints.BONUS;

    private StatementsBoundsTest() {
    }

    public static void main(String[] args) {
        yearOfNow();
        pictureOf("12 gross", NetPoints::gross);
        grossOfAllYears();
        pictureOf("13 adjusted", NetPoints::adjusted);
        adjustedOfAllYears();
        pictureOf("14 fees", NetPoints::fees);
        feesOfAllYears();
        pictureOf("15 balance", (x, picture) -> x.balance(picture, 0));
        yearUpToNow("15 balance", (x, year) -> x.balance(0, year));
        balanceBehindAYear();
        pictureOf("16 profit", (x, picture) -> x.profit(picture, 0));
        yearUpToNow("16 profit", (x, year) -> x.profit(0, year));
        profitBehindAYear();
        pictureThenYear();
        pictureOf("17 pool", NetPoints::pool);
        poolNow();
        sharersNumber();
        sharerOf("19 sum", NetPoints::sum);
        sumNow();
        sharerOf("20 paid", NetPoints::paid);
        paidAdded();
        sharerOf("21 owed", NetPoints::owed);
        owedLessWhatWasPaid();
        statementsChangeNothing();
        Check.finish();
    }

    private static void pictureOf(String statement, ToIntBiFunction<NetPoints, Integer> asked) {
        Check.sentence(statement + ": picture: 0 or 1");
        Check.bounds("picture", Check.INDEX, 0, 1, Start::fresh, (x, n) -> asked.applyAsInt(x, n));
        Check.bounds("picture", Check.INDEX, 0, 1, Start::full, (x, n) -> asked.applyAsInt(x, n));
        Check.sentence(statement + ": nothing received, nothing spent, no sharer");
        for (int year = 0; year < 10; year += 9) {
            Check.same("picture 0", asked.applyAsInt(Start.inYear(year), 0), 0);
            Check.same("picture 1", asked.applyAsInt(Start.inYear(year), 1), 0);
        }
    }

    private static void yearUpToNow(String statement, ToIntBiFunction<NetPoints, Integer> asked) {
        Check.sentence(statement + ": year: 0 to that of now");
        for (int now = 0; now < 10; now++) {
            int year = now;
            Check.bounds("in the year " + now, Check.ARGUMENT, 0, now, () -> Start.inYear(year),
                (x, n) -> asked.applyAsInt(x, n));
        }
        Check.refuses("once the year is 10", Check.ARGUMENT, () -> Start.inYear(9),
            x -> asked.applyAsInt(x, 10));
    }

    private static void sharerOf(String statement, ToIntBiFunction<NetPoints, Integer> asked) {
        Check.sentence(statement + ": Throws IndexOutOfBoundsException if there is no such sharer");
        Check.refuses("no sharer at all", Check.INDEX, Start::fresh, x -> asked.applyAsInt(x, 0));
        Check.bounds("of five", Check.INDEX, 0, 4, Start::lively, (x, n) -> asked.applyAsInt(x, n));
        Check.bounds("of eight", Check.INDEX, 0, 7, Start::full, (x, n) -> asked.applyAsInt(x, n));
        NetPoints x = Start.fresh();
        for (int s = 0; s < 8; s++) {
            int next = s;
            Check.fails("not yet added", Check.INDEX, () -> asked.applyAsInt(x, next));
            x.add(s % 2, s % 4, 100, 0, 0);
            Check.same("of nothing", asked.applyAsInt(x, s), 0);
        }
    }

    private static void yearOfNow() {
        Check.sentence("11: Returns the year of now");
        for (int year = 0; year < 10; year++) {
            Check.same("year", Start.inYear(year).year(), year);
        }
        NetPoints x = Start.inYear(9);
        Check.fails("the last year", Check.STATE, () -> x.closeYear());
        Check.same("the last year stays", x.year(), 9);
    }

    private static void grossOfAllYears() {
        Check.sentence("12: Returns the gross of all years up to now: the sum of its receipts");
        NetPoints x = Start.fresh();
        for (int year = 0; year < 10; year++) {
            for (int w = 0; w < 4; w++) {
                x.receive(0, w, 1 << w);
            }
            Check.same("all windows, years up to " + year, x.gross(0), 15 * (year + 1));
            if (year < 9) {
                x.closeYear();
            }
        }
        Check.same("the other picture", x.gross(1), 0);
        x.spend(0, 9);
        x.setRates(0, 10000, 10000, 2000);
        Check.same("neither costs nor rates count", x.gross(0), 150);
        x.audit(0, 8, 3, 0);
        Check.same("an audit counts", x.gross(0), 142);
        NetPoints most = Start.fresh();
        Start.receive(most, 1, 0, 511, 200000);
        Check.same("the most that 512 calls can bring", most.gross(1), 102200000);
    }

    private static void adjustedOfAllYears() {
        Check.sentence("13: the adjusted gross: those of the years, added");
        NetPoints x = Start.fresh();
        x.setRates(0, 1, 0, 0);
        x.receive(0, 0, 9999);
        Check.same("rounded down to 0", x.adjusted(0), 9999);
        x.receive(0, 3, 1);
        Check.same("just 1, of the windows together", x.adjusted(0), 9999);
        x.closeYear();
        x.receive(0, 0, 9999);
        Check.same("each year by itself", x.adjusted(0), 19998);
        x.closeYear();
        x.receive(0, 0, 19999);
        Check.same("just below 2", x.adjusted(0), 39996);
        NetPoints most = Start.fresh();
        most.setRates(0, 9999, 0, 0);
        Start.receive(most, 0, 0, 510, 200000);
        Check.same("the most that 512 calls can bring", most.adjusted(0), 10200);
    }

    private static void feesOfAllYears() {
        Check.sentence("14: the fees: for each window by itself, rounded down, added");
        NetPoints x = Start.fresh();
        for (int w = 0; w < 4; w++) {
            x.setFee(1, w, 5000);
            x.receive(1, w, 1);
        }
        Check.same("each window by itself", x.fees(1), 0);
        x.receive(1, 2, 1);
        Check.same("the receipts of a window together", x.fees(1), 1);
        x.closeYear();
        x.receive(1, 2, 1);
        Check.same("each year by itself", x.fees(1), 1);
        x.receive(1, 2, 2);
        Check.same("years added", x.fees(1), 2);
        x.setRates(1, 10000, 0, 0);
        Check.same("of the receipts, not of the adjusted gross", x.fees(1), 2);
        NetPoints most = Start.fresh();
        most.setFee(0, 3, 10000);
        Start.receive(most, 0, 3, 510, 200000);
        Check.same("the most that 512 calls can bring", most.fees(0), 102000000);
    }

    private static void balanceBehindAYear() {
        Check.sentence("15: Returns the balance behind a year, its interest included");
        NetPoints x = Start.fresh();
        x.setRates(0, 0, 0, 2000);
        x.spend(0, 100);
        int[] due = {120, 144, 172, 206, 247, 296, 355, 426, 511, 613};
        for (int now = 0; now < 10; now++) {
            for (int year = 0; year <= now; year++) {
                Check.same("the year " + year + " in the year " + now, x.balance(0, year), due[year]);
            }
            if (now < 9) {
                x.closeYear();
            }
        }
        Check.same("the other picture", x.balance(1, 9), 0);
    }

    private static void profitBehindAYear() {
        Check.sentence("16: Returns the profit behind a year");
        NetPoints x = Start.fresh();
        for (int now = 0; now < 10; now++) {
            x.receive(1, 0, 1 << now);
            for (int year = 0; year <= now; year++) {
                Check.same("the year " + year + " in " + now, x.profit(1, year), (2 << year) - 1);
            }
            if (now < 9) {
                x.closeYear();
            }
        }
        Check.same("the other picture", x.profit(0, 9), 0);
    }

    private static void pictureThenYear() {
        Check.sentence("15, 16: Throws picture, then year");
        for (int picture : new int[] {-1, 2, Integer.MIN_VALUE, Integer.MAX_VALUE}) {
            for (int year : new int[] {-1, 3, Integer.MIN_VALUE, Integer.MAX_VALUE}) {
                Check.refuses("balance", Check.INDEX, Start::lively, x -> x.balance(picture, year));
                Check.refuses("profit", Check.INDEX, Start::lively, x -> x.profit(picture, year));
            }
        }
    }

    private static void poolNow() {
        Check.sentence("17: The pool: its profit, less the sums of all its sharers of DEFERMENT");
        NetPoints x = Start.fresh();
        x.receive(0, 0, 100);
        Check.same("no sharer", x.pool(0), 100);
        x.add(0, DEFERMENT, 0, 0, 0);
        Check.same("a break of 0", x.pool(0), 100);
        x.add(1, DEFERMENT, 50, 0, 0);
        x.add(0, NET, 0, 10000, 10000);
        Check.same("of the other picture and kind", x.pool(0), 100);
        x.add(0, DEFERMENT, 99, 0, 0);
        Check.same("all but 1", x.pool(0), 1);
        x.add(0, DEFERMENT, 1, 0, 0);
        Check.same("just all", x.pool(0), 0);
        x.add(0, DEFERMENT, 10000000, 0, 0);
        Check.same("no more than all", x.pool(0), 0);
        Check.same("the other picture without profit", x.pool(1), 0);
        x.closeYear();
        x.receive(1, 0, 51);
        Check.same("the other picture", x.pool(1), 1);
        x.audit(0, 0, 0, 0);
        Check.same("no profit", x.pool(0), 0);
    }

    private static void sharersNumber() {
        Check.sentence("18: Returns the number of sharers");
        NetPoints x = Start.fresh();
        Check.same("none", x.sharers(), 0);
        for (int i = 1; i <= 8; i++) {
            x.add(i % 2, i % 4, 0, 0, 0);
            Check.same("of both pictures", x.sharers(), i);
        }
        Check.fails("a ninth", Check.STATE, () -> x.add(0, GROSS, 0, 0, 0));
        Check.same("eight", x.sharers(), 8);
    }

    private static void sumNow() {
        Check.sentence("19: Returns the sum of a sharer now");
        NetPoints x = Start.fresh();
        x.add(0, GROSS, 0, 1000, 1000);
        x.add(0, NET, 0, 10000, 10000);
        x.add(0, DEFERMENT, 20, 0, 0);
        x.add(0, BONUS, 300, 1, 0);
        int[][] rows = {{10, 70, 20, 0}, {20, 160, 20, 0}, {30, 160, 20, 100}, {40, 240, 20, 100}};
        for (int year = 0; year < 4; year++) {
            x.receive(0, 0, 100);
            for (int s = 0; s < 4; s++) {
                Check.same("sharer " + s + " in the year " + year, x.sum(s), rows[year][s]);
            }
            x.closeYear();
        }
        x.pay(1);
        Check.same("a payment leaves it", x.sum(1), 240);
        NetPoints most = Start.fresh();
        most.add(1, BONUS, 0, 10000, 0);
        Check.same("the greatest bonus", most.sum(0), 1000000);
    }

    private static void paidAdded() {
        Check.sentence("20: Returns the payments, added");
        NetPoints x = Start.fresh();
        x.add(0, NET, 0, 10000, 10000);
        x.add(1, NET, 0, 10000, 10000);
        Check.same("none", x.paid(0), 0);
        Check.fails("a refused payment", Check.STATE, () -> x.pay(0));
        Check.same("a refused payment is none", x.paid(0), 0);
        int due = 0;
        for (int year = 0; year < 10; year++) {
            x.receive(0, 0, 1 + year);
            due += 1 + year;
            Check.same("not yet paid", x.paid(0), due - 1 - year);
            x.pay(0);
            Check.same("added", x.paid(0), due);
            if (year < 9) {
                x.closeYear();
            }
        }
        Check.same("the other sharer", x.paid(1), 0);
        x.setFee(0, 0, 10000);
        Check.same("payments stay, whatever is owed", x.paid(0), due);
    }

    private static void owedLessWhatWasPaid() {
        Check.sentence("21: its sum less what was paid; below 0 if too much was paid");
        NetPoints x = Start.fresh();
        x.add(0, NET, 0, 10000, 10000);
        Check.same("nothing", x.owed(0), 0);
        x.receive(0, 0, 100);
        Check.same("nothing was paid", x.owed(0), 100);
        x.pay(0);
        Check.same("all was paid", x.owed(0), 0);
        x.closeYear();
        x.audit(0, 0, 0, 99);
        Check.same("1 too much", x.owed(0), -1);
        x.audit(0, 0, 0, 101);
        Check.same("1 too little", x.owed(0), 1);
        x.audit(0, 0, 0, 0);
        Check.same("all too much", x.owed(0), -100);
        NetPoints most = Start.fresh();
        most.add(0, NET, 0, 10000, 10000);
        Start.receive(most, 0, 0, 500, 200000);
        most.pay(0);
        most.setFee(0, 0, 10000);
        Check.same("the most too much", most.owed(0), -100000000);
    }

    private static void statementsChangeNothing() {
        Check.sentence("11 to 21: a statement changes nothing");
        NetPoints asked = Start.full();
        StringBuilder first = new StringBuilder();
        StringBuilder second = new StringBuilder();
        Told.statements(asked, first);
        Told.statements(asked, second);
        Check.holds("the same again", first.toString().equals(second.toString()));
        Check.holds("as if not asked",
            Told.everything(asked).equals(Told.everything(Start.full())));
    }
}
