/** What the document promises of each call, in ordinary runs; the bounds stand in tests of their own. */
public final class PromisesTest {
    private static final int GROSS = NetPoints.GROSS;
    private static final int NET = NetPoints.NET;
    private static final int DEFERMENT = NetPoints.DEFERMENT;
    private static final int BONUS = NetPoints.BONUS;

    private PromisesTest() {
    }

    public static void main(String[] args) {
        promise2SetRates();
        promise3SetFee();
        promise4CrossingMovesTheYearsProfit();
        promise4CrossingMovesNoMoreThanTheYearsProfit();
        promise5AddGross();
        promise5AddNet();
        promise5AddDeferment();
        promise5AddBonus();
        promise6Receive();
        promise7Spend();
        promise8Audit();
        promise10Pay();
        promise11To14GrossAdjustedFees();
        promise15And16BalanceAndProfit();
        promise17Pool();
        promise18To21Sharers();
        Check.finish();
    }

    private static void promise2SetRates() {
        NetPoints x = new NetPoints();
        x.spend(0, 999);
        x.spend(1, 999);
        x.setRates(0, 0, 1001, 0);
        Check.same("2: overhead is rounded down", x.balance(0, 0), 999 + 99);
        Check.same("2: the other picture", x.balance(1, 0), 999);
        x.setRates(0, 0, 0, 999);
        Check.same("2: interest is rounded down", x.balance(0, 0), 999 + 99);
        x.setRates(0, 0, 10000, 2000);
        Check.same("2: greatest overhead and interest", x.balance(0, 0), 1998 + 399);
        x.receive(0, 0, 999);
        x.setRates(0, 1001, 0, 0);
        Check.same("2: top is rounded down", x.adjusted(0), 999 - 99);
        Check.same("2: balance less adjusted", x.balance(0, 0), 99);
        x.closeYear();
        x.setRates(0, 10000, 0, 100);
        Check.same("2: for all years: adjusted", x.adjusted(0), 0);
        Check.same("2: for all years: balance of the year 0", x.balance(0, 0), 1008);
        Check.same("2: interest on interest", x.balance(0, 1), 1018);
    }

    private static void promise3SetFee() {
        NetPoints x = new NetPoints();
        Check.same("3: rate before", x.setFee(1, 3, 10000), 0);
        Check.same("3: rate before", x.setFee(1, 3, 999), 10000);
        Check.same("3: rate before", x.setFee(1, 3, 999), 999);
        Check.same("3: another window", x.setFee(1, 2, 999), 0);
        Check.same("3: another picture", x.setFee(0, 3, 0), 0);
        x.receive(1, 3, 999);
        x.receive(1, 2, 999);
        x.closeYear();
        x.receive(1, 2, 999);
        Check.same("3: each window and year is rounded down", x.fees(1), 99 * 3);
        Check.same("3: fees of a year", x.profit(1, 0), 1998 - 198);
        x.setFee(1, 2, 0);
        Check.same("3: for all years", x.fees(1), 99);
        Check.same("3: nothing was set", x.setFee(1, 3, 0), 999);
    }

    private static void promise4CrossingMovesTheYearsProfit() {
        NetPoints x = new NetPoints();
        x.setRates(1, 0, 0, 1000);
        x.receive(0, 0, 300);
        x.spend(1, 1000);
        Check.same("4: not crossed", x.balance(1, 0), 1100);
        x.closeYear();
        x.setCrossed(true);
        Check.same("4: in all years", x.balance(1, 0), 770);
        Check.same("4: taken off the profit", x.profit(0, 0), 0);
        Check.same("4: interest comes behind", x.balance(1, 1), 847);
        x.receive(0, 0, 900);
        Check.same("4: as much as possible", x.balance(1, 1), 0);
        Check.same("4: the rest stays", x.profit(0, 1), 130);
        x.closeYear();
        x.spend(0, 50);
        x.receive(1, 1, 80);
        Check.same("4: from 1 to 0", x.balance(0, 2), 0);
        Check.same("4: from 1 to 0, the rest", x.profit(1, 2), 30);
        Check.same("4: the profit of 0 stays", x.profit(0, 2), 130);
        x.setCrossed(false);
        Check.same("4: no more", x.profit(0, 2), 1200);
        Check.same("4: no more, the balance", x.balance(0, 2), 50);
    }

    private static void promise4CrossingMovesNoMoreThanTheYearsProfit() {
        NetPoints x = new NetPoints();
        x.setCrossed(true);
        x.receive(0, 0, 500);
        x.closeYear();
        x.spend(1, 400);
        Check.same("4: profit of an earlier year stays", x.profit(0, 1), 500);
        Check.same("4: the balance stays", x.balance(1, 1), 400);
        x.receive(0, 0, 100);
        Check.same("4: the year's profit goes", x.profit(0, 1), 500);
        Check.same("4: the year's profit is taken off", x.balance(1, 1), 300);
    }

    private static void promise5AddGross() {
        NetPoints x = new NetPoints();
        Check.same("5: number", x.add(0, GROSS, 1000, 333, 1000), 0);
        x.setRates(0, 1000, 10000, 0);
        x.receive(0, 0, 999);
        Check.same("5: below the break, of the adjusted gross", x.sum(0), 29);
        Check.same("5: a cost with no overhead", x.profit(0, 0), 900 - 29);
        x.receive(0, 0, 112);
        Check.same("5: at the break", x.adjusted(0), 1000);
        Check.same("5: at the break", x.sum(0), 33);
        x.closeYear();
        x.receive(0, 1, 55);
        Check.same("5: above the break, both parts rounded as one", x.adjusted(0), 1050);
        Check.same("5: above the break", x.sum(0), 38);
        Check.same("5: only what was added in the year", x.profit(0, 1), 1050 - 38);
        Check.same("5: the year before", x.profit(0, 0), 1000 - 33);
        Check.same("5: number", x.add(0, GROSS, 10000000, 1000, 0), 1);
        Check.same("5: a new sharer reaches back", x.profit(0, 0), 1000 - 33 - 100);
        Check.same("5: of the other picture", x.add(1, GROSS, 0, 1000, 1000), 2);
        Check.same("5: of the other picture", x.sum(2), 0);
    }

    private static void promise5AddNet() {
        NetPoints x = new NetPoints();
        x.add(0, NET, 100, 5000, 1000);
        x.add(0, NET, 0, 1, 5000);
        x.add(1, NET, 0, 10000, 10000);
        x.spend(0, 1000);
        x.receive(0, 0, 1000);
        Check.same("5: no pool yet", x.sum(0), 0);
        x.receive(0, 0, 99);
        Check.same("5: below the break", x.sum(0), 49);
        x.receive(0, 0, 20);
        Check.same("5: above the break", x.sum(0), 51);
        Check.same("5: a break of 0", x.sum(1), 59);
        Check.same("5: net is no cost", x.profit(0, 0), 119);
        x.add(0, DEFERMENT, 100, 0, 0);
        Check.same("5: of the pool, not of the profit", x.sum(0), 9);
        Check.same("5: the other picture's pool", x.sum(2), 0);
        x.receive(1, 0, 7);
        Check.same("5: the whole pool", x.sum(2), 7);
    }

    private static void promise5AddDeferment() {
        NetPoints x = new NetPoints();
        x.add(0, DEFERMENT, 50, 0, 0);
        x.add(1, DEFERMENT, 1000, 10000, 10000);
        x.add(0, DEFERMENT, 70, 9, 9);
        x.add(0, GROSS, 0, 0, 0);
        x.add(0, DEFERMENT, 30, 0, 0);
        int[][] rows = {{49, 49, 0, 0}, {1, 50, 0, 0}, {1, 50, 1, 0}, {69, 50, 70, 0}, {29, 50, 70, 29},
            {1, 50, 70, 30}, {5, 50, 70, 30}};
        for (int[] row : rows) {
            x.receive(0, 0, row[0]);
            Check.same("5: the first turn", x.sum(0), row[1]);
            Check.same("5: the second turn", x.sum(2), row[2]);
            Check.same("5: the third turn", x.sum(4), row[3]);
        }
        Check.same("5: another picture has its own turns", x.sum(1), 0);
        Check.same("5: deferments are no costs", x.profit(0, 0), 155);
        Check.same("5: what is left is the pool", x.pool(0), 5);
    }

    private static void promise5AddBonus() {
        NetPoints x = new NetPoints();
        x.add(0, BONUS, 1000, 3, 10000);
        x.setRates(0, 10000, 10000, 0);
        x.receive(0, 0, 999);
        Check.same("5: the break is not reached", x.sum(0), 0);
        Check.same("5: no cost yet", x.balance(0, 0), 0);
        x.closeYear();
        x.receive(0, 1, 1);
        Check.same("5: reached by all years together", x.sum(0), 300);
        Check.same("5: a cost with no overhead", x.balance(0, 1), 300);
        Check.same("5: in that year alone", x.balance(0, 0), 0);
        x.closeYear();
        x.receive(0, 1, 5000);
        Check.same("5: once", x.sum(0), 300);
        Check.same("5: once a cost", x.balance(0, 2), 300);
        x.audit(0, 0, 0, 1000);
        Check.same("5: an audit lets it come earlier", x.balance(0, 0), 300);
        x.add(1, BONUS, 0, 10000, 0);
        Check.same("5: a break of 0 is reached at once", x.sum(1), 1000000);
        Check.same("5: in the first year", x.balance(1, 0), 1000000);
    }

    private static void promise6Receive() {
        NetPoints x = new NetPoints();
        Check.same("6: receipts then", x.receive(0, 0, 1), 1);
        Check.same("6: receipts then", x.receive(0, 0, 200000), 200001);
        Check.same("6: another window", x.receive(0, 3, 7), 7);
        Check.same("6: another picture", x.receive(1, 0, 8), 8);
        Check.same("6: the gross of the windows", x.gross(0), 200008);
        x.closeYear();
        Check.same("6: a new year", x.receive(0, 0, 5), 5);
        Check.same("6: all years", x.gross(0), 200013);
    }

    private static void promise7Spend() {
        NetPoints x = new NetPoints();
        Check.same("7: costs then", x.spend(0, 1), 1);
        Check.same("7: costs then", x.spend(0, 200000), 200001);
        Check.same("7: another picture", x.spend(1, 9), 9);
        Check.same("7: the balance", x.balance(0, 0), 200001);
        x.closeYear();
        Check.same("7: a new year", x.spend(0, 5), 5);
        Check.same("7: all years", x.balance(0, 1), 200006);
        Check.same("7: the year before", x.balance(0, 0), 200001);
    }

    private static void promise8Audit() {
        NetPoints x = new NetPoints();
        x.receive(0, 2, 40);
        x.closeYear();
        Check.same("8: what they were", x.audit(0, 0, 2, 30), 40);
        Check.same("8: what they were", x.audit(0, 0, 2, 1000000), 30);
        Check.same("8: another window", x.audit(0, 0, 1, 0), 0);
        Check.same("8: another picture", x.audit(1, 0, 2, 0), 0);
        Check.same("8: what they are", x.profit(0, 0), 1000000);
        Check.same("8: the least", x.audit(0, 0, 2, 0), 1000000);
        Check.same("8: the least", x.gross(0), 0);
        x.closeYear();
        x.closeYear();
        Check.same("8: 3 years before", x.audit(0, 0, 2, 5), 0);
        Check.same("8: 1 year before", x.audit(0, 2, 3, 6), 0);
        x.closeYear();
        Check.same("8: 3 years before", x.audit(0, 1, 2, 7), 0);
        Check.same("8: the year 0 is as it was", x.profit(0, 0), 5);
        Check.same("8: the year 1", x.profit(0, 1), 12);
        Check.same("8: the year 2", x.profit(0, 2), 18);
        Check.same("8: each year has its own receipts", x.audit(0, 2, 2, 0), 0);
    }

    private static void promise10Pay() {
        NetPoints x = new NetPoints();
        x.add(0, NET, 10000000, 10000, 0);
        Check.fails("10: nothing is owed", Check.STATE, () -> x.pay(0));
        x.receive(0, 0, 100);
        Check.same("10: paid", x.pay(0), 100);
        Check.fails("10: nothing is owed any more", Check.STATE, () -> x.pay(0));
        x.receive(0, 0, 1);
        Check.same("10: only the rest", x.pay(0), 1);
        Check.same("20: payments, added", x.paid(0), 101);
        x.closeYear();
        x.audit(0, 0, 0, 50);
        Check.same("21: too much was paid", x.owed(0), -51);
        Check.fails("10: less than 0 is owed", Check.STATE, () -> x.pay(0));
        Check.same("20: a refused payment is none", x.paid(0), 101);
        Check.fails("10: no sharer 1", Check.INDEX, () -> x.pay(1));
        x.audit(0, 0, 0, 1000000);
        Check.same("10: what the audit found", x.pay(0), 999899);
        Check.same("10: a payment is no cost", x.profit(0, 1), 1000000);
    }

    private static void promise11To14GrossAdjustedFees() {
        NetPoints x = new NetPoints();
        x.setRates(1, 3333, 0, 0);
        x.setFee(1, 0, 5000);
        x.setFee(1, 1, 5000);
        for (int year = 0; year < 3; year++) {
            x.receive(1, 0, 1);
            x.receive(1, 1, 3);
            Check.same("12: gross", x.gross(1), 4 * (year + 1));
            Check.same("13: each year is rounded by itself", x.adjusted(1), 3 * (year + 1));
            Check.same("14: each year and window by itself", x.fees(1), year + 1);
            x.closeYear();
            Check.same("11: year", x.year(), year + 1);
        }
        Check.same("12: the other picture", x.gross(0), 0);
        Check.same("13: the other picture", x.adjusted(0), 0);
        Check.same("14: the other picture", x.fees(0), 0);
        x.audit(1, 0, 3, 10);
        Check.same("12: an audit counts", x.gross(1), 22);
        Check.same("13: an audit counts", x.adjusted(1), 10 + 6);
    }

    private static void promise15And16BalanceAndProfit() {
        NetPoints x = new NetPoints();
        x.setRates(0, 5000, 1000, 1000);
        x.setFee(0, 0, 8000);
        x.receive(0, 0, 1000);
        Check.same("15: what comes in is below 0", x.balance(0, 0), 330);
        Check.same("16: no profit", x.profit(0, 0), 0);
        x.spend(0, 500);
        Check.same("15: costs, overhead and interest", x.balance(0, 0), 935);
        x.closeYear();
        x.receive(0, 1, 1870);
        Check.same("15: just recouped", x.balance(0, 1), 0);
        Check.same("16: just recouped", x.profit(0, 1), 0);
        x.receive(0, 1, 2);
        Check.same("15: recouped", x.balance(0, 1), 0);
        Check.same("16: what is below 0 is profit", x.profit(0, 1), 1);
        x.closeYear();
        x.spend(0, 100);
        Check.same("15: profit covers no later costs", x.balance(0, 2), 121);
        Check.same("16: profit stays", x.profit(0, 2), 1);
        x.closeYear();
        Check.same("15: interest goes on", x.balance(0, 3), 133);
        Check.same("15: earlier years can be asked", x.balance(0, 0), 935);
        Check.same("16: earlier years can be asked", x.profit(0, 0), 0);
        Check.same("16: profit goes on", x.profit(0, 3), 1);
    }

    private static void promise17Pool() {
        NetPoints x = new NetPoints();
        x.receive(0, 0, 100);
        Check.same("17: the profit", x.pool(0), 100);
        x.add(0, DEFERMENT, 30, 0, 0);
        x.add(1, DEFERMENT, 30, 0, 0);
        x.add(0, NET, 0, 5000, 5000);
        Check.same("17: less the deferments of the picture", x.pool(0), 70);
        x.add(0, DEFERMENT, 71, 0, 0);
        Check.same("17: never below 0", x.pool(0), 0);
        x.closeYear();
        x.receive(0, 0, 10);
        Check.same("17: of all years", x.pool(0), 9);
        Check.same("17: the other picture", x.pool(1), 0);
    }

    private static void promise18To21Sharers() {
        NetPoints x = new NetPoints();
        for (int i = 0; i < 8; i++) {
            Check.same("18: number", x.add(i % 2, BONUS, 0, i, 0), i);
            Check.same("18: sharers", x.sharers(), i + 1);
            Check.same("19: sum", x.sum(i), 100 * i);
            Check.same("20: paid", x.paid(i), 0);
            Check.same("21: owed", x.owed(i), 100 * i);
        }
        x.pay(7);
        Check.same("19: a payment leaves the sum", x.sum(7), 700);
        Check.same("20: paid", x.paid(7), 700);
        Check.same("21: owed", x.owed(7), 0);
        Check.same("20: another sharer", x.paid(6), 0);
    }
}
