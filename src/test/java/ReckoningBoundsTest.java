/** The heading "Terms": each sentence that names a boundary case has a test of its own. */
public final class ReckoningBoundsTest {
    private static final int GROSS = NetPoints.GROSS;
    private static final int NET = NetPoints.NET;
    private static final int DEFERMENT = NetPoints.DEFERMENT;
    private static final int BONUS = NetPoints.BONUS;

    private ReckoningBoundsTest() {
    }

    public static void main(String[] args) {
        receiptsAndCostsOfTheirOwn();
        sharersHaveTermsOfTheirOwn();
        drawnAnew();
        tenThousandIsTheWhole();
        comesInBelow0();
        grossShareUpToTheBreak();
        grossShareRoundedAsOne();
        grossShareAtTheEnds();
        grossShareOfAllYears();
        netShareUpToTheBreak();
        netShareAtTheEnds();
        netShareOfThePool();
        defermentAtMostItsBreak();
        defermentsByTurns();
        defermentsOfThisKindAndPicture();
        bonusAtTheBreak();
        bonusAtTheEnds();
        bonusByTheGrossOfAllYears();
        bonusMovedByAnAudit();
        balanceAndProfit0AtFirst();
        overheadRoundedDown();
        overheadOfCostsAlone();
        sharesLessThoseOfTheYearBefore();
        bonusACostOfItsYear();
        takenOffTheBalance();
        profitIsKept();
        crossedAsMuchAsPossible();
        crossedTheProfitOfThisYear();
        crossedBehindTheSteps1And2();
        crossedAheadOfTheInterest();
        crossedWithNothingToMove();
        interestRoundedDown();
        poolLessTheDeferments();
        largestBalance();
        largestAudits();
        Check.finish();
    }

    private static void goOn(NetPoints x, int year) {
        while (x.year() < year) {
            x.closeYear();
        }
    }

    private static void receiptsAndCostsOfTheirOwn() {
        Check.sentence("Each picture has for each year its receipts by windows, and its costs");
        NetPoints x = Start.fresh();
        int[] gross = new int[2];
        int[] costs = new int[2];
        for (int year = 0; year < 10; year++) {
            for (int p = 0; p < 2; p++) {
                int spent = 100000 + 10 * year + p;
                costs[p] += spent;
                Check.same("costs", x.spend(p, spent), spent);
                for (int w = 0; w < 4; w++) {
                    int amount = 1000 + 100 * year + 10 * p + w;
                    gross[p] += amount;
                    Check.same("receipts", x.receive(p, w, amount), amount);
                }
            }
            for (int p = 0; p < 2; p++) {
                Check.same("gross up to " + year, x.gross(p), gross[p]);
                Check.same("balance behind " + year, x.balance(p, year), costs[p] - gross[p]);
            }
            for (int ago = Math.max(0, year - 3); ago < year; ago++) {
                receiptsStay(x, ago);
            }
            goOn(x, Math.min(9, year + 1));
        }
    }

    private static void receiptsStay(NetPoints x, int year) {
        for (int p = 0; p < 2; p++) {
            for (int w = 0; w < 4; w++) {
                int amount = 1000 + 100 * year + 10 * p + w;
                Check.same("receipts of " + year, x.audit(p, year, w, amount), amount);
            }
        }
    }

    private static void sharersHaveTermsOfTheirOwn() {
        Check.sentence("There can be 8. A sharer has a picture, a kind, a break, and two rates");
        NetPoints x = Start.fresh();
        for (int p = 0; p < 2; p++) {
            x.add(p, GROSS, 1000 + p, 100 + p, 200 + p);
            x.add(p, NET, 2000 + p, 3000 + p, 4000 + p);
            x.add(p, DEFERMENT, 50 + p, 5, 6);
            x.add(p, BONUS, 10000 + p, 7 + p, 8);
            x.receive(p, p, 10000);
        }
        // Behind 190 for the GROSS and 700 for the BONUS of the picture 0 the profit is 9110, and 9810
        // in the picture 1, where the bonus is not reached; the pools are 9060 and 9759.
        int[] due = {190, 3424, 50, 700, 190, 3704, 51, 0};
        for (int s = 0; s < 8; s++) {
            Check.same("sharer " + s, x.sum(s), due[s]);
        }
    }

    private static void drawnAnew() {
        Check.sentence("What is owed is always drawn anew from the first year");
        NetPoints x = Start.fresh();
        x.add(0, NET, 0, 10000, 10000);
        x.receive(0, 0, 1000);
        x.pay(0);
        goOn(x, 9);
        x.setRates(0, 1000, 0, 0);
        Check.same("a top rate set later", x.owed(0), -100);
        x.setFee(0, 0, 2000);
        Check.same("a fee rate set later", x.owed(0), -300);
        x.add(0, GROSS, 0, 1000, 1000);
        Check.same("a sharer added later", x.owed(0), -390);
        x.setRates(0, 0, 0, 0);
        Check.same("a top rate put back", x.owed(0), -300);
        x.spend(1, 1);
        x.receive(1, 0, 3);
        x.setCrossed(true);
        Check.same("crossed later", x.owed(0), -300);
    }

    private static void tenThousandIsTheWhole() {
        Check.sentence("Rates are hundredths of a percent: 10000 is the whole");
        NetPoints x = Start.fresh();
        x.add(1, NET, 0, 0, 10000);
        x.receive(0, 0, 12345);
        x.receive(1, 0, 12345);
        x.setFee(0, 0, 1);
        Check.same("a hundredth of a percent", x.fees(0), 1);
        x.setFee(0, 0, 10000);
        Check.same("the whole as fee", x.fees(0), 12345);
        x.setRates(0, 10000, 10000, 0);
        Check.same("the whole off the top", x.adjusted(0), 0);
        Check.same("the whole of the net", x.sum(0), 12345);
        x.spend(0, 5);
        Check.same("the whole as overhead", x.balance(0, 0), 12355);
    }

    private static void comesInBelow0() {
        Check.sentence("What comes in is the adjusted gross less the fees, which can be below 0");
        NetPoints x = Start.fresh();
        x.setFee(0, 0, 5000);
        x.setRates(0, 4999, 0, 0);
        x.receive(0, 0, 10000);
        Check.same("just above 0, the profit", x.profit(0, 0), 1);
        Check.same("just above 0, the balance", x.balance(0, 0), 0);
        x.setRates(0, 5000, 0, 0);
        Check.same("just 0, the profit", x.profit(0, 0), 0);
        Check.same("just 0, the balance", x.balance(0, 0), 0);
        x.setRates(0, 5001, 0, 0);
        Check.same("just below 0, the profit", x.profit(0, 0), 0);
        Check.same("just below 0, the balance", x.balance(0, 0), 1);
        x.setFee(0, 0, 10000);
        x.setRates(0, 10000, 10000, 2000);
        Check.same("the least, with interest, without overhead", x.balance(0, 0), 12000);
    }

    private static void grossShareUpToTheBreak() {
        Check.sentence("GROSS: as far as it is not above the break, times the first rate, and above");
        NetPoints x = Start.fresh();
        x.add(0, GROSS, 1000, 1000, 0);
        x.add(0, GROSS, 1000, 0, 1000);
        int[][] rows = {{999, 99, 0}, {1, 100, 0}, {9, 100, 0}, {1, 100, 1}, {9, 100, 1}, {1, 100, 2}};
        int gross = 0;
        for (int[] row : rows) {
            x.receive(0, 0, row[0]);
            gross += row[0];
            Check.same("not above, of " + gross, x.sum(0), row[1]);
            Check.same("above, of " + gross, x.sum(1), row[2]);
        }
        x.setRates(0, 5000, 0, 0);
        Check.same("of the adjusted gross", x.sum(0), 51);
        x.setFee(0, 0, 10000);
        Check.same("fees do not count", x.sum(0), 51);
    }

    private static void grossShareRoundedAsOne() {
        Check.sentence("GROSS: added, divided by 10000, rounded down");
        NetPoints x = Start.fresh();
        x.add(0, GROSS, 15, 500, 500);
        x.receive(0, 0, 19);
        Check.same("just below 1", x.sum(0), 0);
        x.receive(0, 0, 1);
        Check.same("just 1, of two parts below 1", x.sum(0), 1);
        x.closeYear();
        x.receive(0, 0, 19);
        Check.same("just below 2, of two years", x.sum(0), 1);
        x.receive(0, 0, 1);
        Check.same("just 2", x.sum(0), 2);
    }

    private static void grossShareAtTheEnds() {
        Check.sentence("GROSS: a break of 0, a break of 10000000, nothing received");
        NetPoints x = Start.fresh();
        x.add(0, GROSS, 0, 0, 1000);
        x.add(0, GROSS, 10000000, 1000, 0);
        x.add(0, GROSS, 10000000, 0, 1000);
        for (int s = 0; s < 3; s++) {
            Check.same("nothing received", x.sum(s), 0);
        }
        Start.receive(x, 0, 0, 50, 200000);
        Check.same("a break of 0", x.sum(0), 1000000);
        Check.same("just the greatest break", x.sum(1), 1000000);
        Check.same("nothing above the greatest break", x.sum(2), 0);
        x.receive(0, 0, 10);
        Check.same("a break of 0", x.sum(0), 1000001);
        Check.same("no more up to the greatest break", x.sum(1), 1000000);
        Check.same("above the greatest break", x.sum(2), 1);
        x.setRates(0, 10000, 0, 0);
        Check.same("no adjusted gross", x.sum(0) + x.sum(1) + x.sum(2), 0);
    }

    private static void grossShareOfAllYears() {
        Check.sentence("GROSS: the adjusted gross of all years up to now");
        NetPoints x = Start.fresh();
        x.add(1, GROSS, 100, 1000, 0);
        int[] due = {6, 10, 10};
        for (int year = 0; year < 3; year++) {
            x.receive(1, 0, 60);
            Check.same("the break is for all years together", x.sum(0), due[year]);
            x.closeYear();
        }
        Check.same("a year without receipts", x.sum(0), 10);
        x.audit(1, 0, 0, 0);
        x.audit(1, 1, 0, 39);
        Check.same("an audit takes it below the break", x.sum(0), 9);
    }

    private static void netShareUpToTheBreak() {
        Check.sentence("NET: reckoned likewise from the pool (the break, too)");
        NetPoints x = Start.fresh();
        x.add(0, NET, 100, 5000, 0);
        x.add(0, NET, 100, 0, 5000);
        int[][] rows = {{99, 49, 0}, {1, 50, 0}, {1, 50, 0}, {1, 50, 1}};
        for (int[] row : rows) {
            x.receive(0, 0, row[0]);
            Check.same("not above, of " + x.pool(0), x.sum(0), row[1]);
            Check.same("above, of " + x.pool(0), x.sum(1), row[2]);
        }
        x.spend(0, 3);
        Check.same("the pool goes below the break", x.sum(0), 49);
        NetPoints one = Start.fresh();
        one.add(0, NET, 1, 5000, 5000);
        one.receive(0, 0, 2);
        Check.same("two parts below 1 rounded as one", one.sum(0), 1);
    }

    private static void netShareAtTheEnds() {
        Check.sentence("NET: a break of 0, a break of 10000000, a pool of 0");
        NetPoints x = Start.fresh();
        x.add(0, NET, 0, 0, 5000);
        x.add(0, NET, 10000000, 2500, 0);
        x.add(0, NET, 10000000, 0, 2500);
        x.spend(0, 200000);
        for (int s = 0; s < 3; s++) {
            Check.same("no pool", x.sum(s), 0);
        }
        Start.receive(x, 0, 0, 51, 200000);
        Check.same("a break of 0", x.sum(0), 5000000);
        Check.same("just the greatest break", x.sum(1), 2500000);
        Check.same("nothing above the greatest break", x.sum(2), 0);
        x.receive(0, 0, 4);
        Check.same("a break of 0", x.sum(0), 5000002);
        Check.same("no more up to the greatest break", x.sum(1), 2500000);
        Check.same("above the greatest break", x.sum(2), 1);
    }

    private static void netShareOfThePool() {
        Check.sentence("NET: from the pool, not from the profit");
        NetPoints x = Start.fresh();
        x.add(0, NET, 0, 10000, 10000);
        x.add(0, DEFERMENT, 40, 0, 0);
        x.receive(0, 0, 40);
        Check.same("all is deferred", x.sum(0), 0);
        x.receive(0, 0, 1);
        Check.same("1 is left", x.sum(0), 1);
        Check.same("the share is not taken off the profit", x.profit(0, 0), 41);
        Check.same("the share is not taken off the pool", x.pool(0), 1);
    }

    private static void defermentAtMostItsBreak() {
        Check.sentence("DEFERMENT: its sum is at most its break");
        NetPoints x = Start.fresh();
        x.add(0, DEFERMENT, 100, 0, 0);
        x.add(1, DEFERMENT, 0, 0, 0);
        x.add(1, DEFERMENT, 10000000, 0, 0);
        Check.same("no profit", x.sum(0), 0);
        x.receive(0, 0, 99);
        Check.same("just below", x.sum(0), 99);
        x.receive(0, 0, 1);
        Check.same("just reached", x.sum(0), 100);
        x.receive(0, 0, 1);
        Check.same("no more", x.sum(0), 100);
        Start.receive(x, 1, 0, 50, 200000);
        Check.same("a break of 0", x.sum(1), 0);
        Check.same("the greatest break, reached", x.sum(2), 10000000);
        x.receive(1, 0, 1);
        Check.same("the greatest break, no more", x.sum(2), 10000000);
        Check.same("the pool behind it", x.pool(1), 1);
    }

    private static void defermentsByTurns() {
        Check.sentence("DEFERMENT: what is left by the sharers of this kind with lower numbers");
        NetPoints x = Start.fresh();
        for (int i = 0; i < 8; i++) {
            x.add(0, DEFERMENT, 10, 0, 0);
        }
        for (int profit = 1; profit <= 90; profit++) {
            x.receive(0, 0, 1);
            if (profit % 10 > 1 && profit % 10 < 9) {
                continue;
            }
            for (int s = 0; s < 8; s++) {
                Check.same("turn " + s + " of " + profit, x.sum(s),
                    Math.max(0, Math.min(10, profit - 10 * s)));
            }
        }
        Check.same("what all leave", x.pool(0), 10);
    }

    private static void defermentsOfThisKindAndPicture() {
        Check.sentence("DEFERMENT: of this kind and picture, with lower numbers");
        NetPoints x = Start.fresh();
        x.add(1, DEFERMENT, 70, 0, 0);
        x.add(0, NET, 70, 10000, 0);
        x.add(0, GROSS, 70, 0, 0);
        x.add(0, BONUS, 0, 0, 0);
        x.add(0, DEFERMENT, 70, 0, 0);
        x.add(1, DEFERMENT, 70, 0, 0);
        x.add(0, DEFERMENT, 70, 0, 0);
        x.receive(0, 0, 71);
        x.receive(1, 0, 69);
        Check.same("the first of the picture 0", x.sum(4), 70);
        Check.same("the second of the picture 0", x.sum(6), 1);
        Check.same("the first of the picture 1", x.sum(0), 69);
        Check.same("the second of the picture 1", x.sum(5), 0);
    }

    private static void bonusAtTheBreak() {
        Check.sentence("BONUS: the first rate, times 100, once the break is reached; 0 before");
        NetPoints x = Start.fresh();
        x.add(0, BONUS, 1000, 3, 10000);
        Check.same("nothing received", x.sum(0), 0);
        x.receive(0, 0, 999);
        Check.same("just below", x.sum(0), 0);
        x.receive(0, 3, 1);
        Check.same("just reached", x.sum(0), 300);
        x.receive(0, 3, 1);
        Check.same("above", x.sum(0), 300);
        x.receive(0, 3, 200000);
        Check.same("far above", x.sum(0), 300);
    }

    private static void bonusAtTheEnds() {
        Check.sentence("BONUS: a break of 0, a break of 10000000, a rate of 0, a rate of 10000");
        NetPoints x = Start.fresh();
        x.add(0, BONUS, 0, 10000, 0);
        x.add(0, BONUS, 0, 0, 10000);
        x.add(1, BONUS, 10000000, 10000, 0);
        Check.same("a break of 0, nothing received", x.sum(0), 1000000);
        Check.same("in the first year", x.balance(0, 0), 1000000);
        Check.same("a rate of 0", x.sum(1), 0);
        Start.receive(x, 1, 0, 49, 200000);
        x.receive(1, 0, 199999);
        Check.same("just below the greatest break", x.sum(2), 0);
        x.receive(1, 0, 1);
        Check.same("just the greatest break", x.sum(2), 1000000);
    }

    private static void bonusByTheGrossOfAllYears() {
        Check.sentence("BONUS: the gross of all years so far");
        NetPoints x = Start.fresh();
        x.add(0, BONUS, 10, 1, 0);
        x.setRates(0, 10000, 0, 0);
        x.setFee(0, 0, 10000);
        x.receive(1, 0, 10);
        for (int year = 0; year < 9; year++) {
            x.receive(0, 0, 1);
            Check.same("not yet in the year " + year, x.sum(0), 0);
            x.closeYear();
        }
        x.receive(0, 0, 1);
        Check.same("in the last year, of the gross before rates and fees", x.sum(0), 100);
        Check.same("a cost of the last year", x.balance(0, 9), 10 + 100);
        Check.same("none of the year before", x.balance(0, 8), 9);
    }

    private static void bonusMovedByAnAudit() {
        Check.sentence("BONUS: from the first year on in which the break is reached, drawn anew");
        NetPoints x = Start.fresh();
        x.add(0, BONUS, 100, 2, 0);
        x.receive(0, 0, 60);
        x.closeYear();
        x.receive(0, 0, 40);
        x.closeYear();
        Check.same("reached in the year 1", x.balance(0, 1), 160);
        Check.same("profit of the year 0", x.profit(0, 0), 60);
        x.audit(0, 0, 0, 100);
        Check.same("an audit lets it come earlier", x.balance(0, 0), 100);
        Check.same("and not a second time", x.balance(0, 1), 60);
        x.audit(0, 0, 0, 59);
        Check.same("an audit takes it away", x.sum(0), 0);
        Check.same("and its cost", x.profit(0, 2), 99);
        x.receive(0, 0, 1);
        Check.same("reached again, later", x.sum(0), 200);
        Check.same("a cost of the year 2", x.balance(0, 2), 199);
    }

    private static void balanceAndProfit0AtFirst() {
        Check.sentence("The balance is 0 at first; the profit is 0 at first");
        for (int p = 0; p < 2; p++) {
            for (int year = 0; year < 10; year++) {
                NetPoints x = Start.inYear(year);
                x.setRates(p, 10000, 10000, 2000);
                Check.same("balance", x.balance(p, year), 0);
                Check.same("profit", x.profit(p, year), 0);
            }
        }
    }

    private static void overheadRoundedDown() {
        Check.sentence("1: these costs times the overhead rate, divided by 10000, rounded down");
        NetPoints x = Start.fresh();
        x.setRates(0, 0, 1000, 0);
        x.spend(0, 9);
        Check.same("just below 1", x.balance(0, 0), 9);
        x.spend(0, 1);
        Check.same("just 1, of the costs of the year together", x.balance(0, 0), 11);
        x.closeYear();
        x.spend(0, 19);
        Check.same("each year by itself, just below 2", x.balance(0, 1), 31);
        x.closeYear();
        Check.same("no costs, no overhead", x.balance(0, 2), 31);
        Check.same("the other picture", x.balance(1, 2), 0);
    }

    private static void overheadOfCostsAlone() {
        Check.sentence("1: overhead of the costs of the year, not of the sums or of the balance");
        NetPoints x = Start.fresh();
        x.setRates(0, 10000, 10000, 0);
        x.add(0, BONUS, 0, 5, 0);
        x.setFee(0, 0, 10000);
        x.receive(0, 0, 7);
        Check.same("nothing spent", x.balance(0, 0), 507);
        x.spend(0, 1);
        Check.same("1 spent", x.balance(0, 0), 509);
        x.closeYear();
        Check.same("nothing spent in the next year", x.balance(0, 1), 509);
    }

    private static void sharesLessThoseOfTheYearBefore() {
        Check.sentence("1: the sums up to this year, less what they were up to the year before");
        NetPoints x = Start.fresh();
        x.add(0, GROSS, 10000000, 1000, 0);
        x.add(1, GROSS, 10000000, 1000, 0);
        int[] due = {9, 17, 25, 33, 41, 49, 57, 65, 73, 81};
        for (int year = 0; year < 10; year++) {
            x.receive(0, 0, 9);
            Check.same("what rounding left comes later, " + year, x.profit(0, year), due[year]);
            if (year < 9) {
                x.closeYear();
            }
        }
        NetPoints first = Start.fresh();
        first.add(0, GROSS, 0, 0, 1000);
        first.add(0, NET, 0, 10000, 10000);
        first.receive(0, 0, 1000);
        Check.same("0 ahead of the first year", first.profit(0, 0), 900);
        first.closeYear();
        Check.same("a year without receipts costs nothing", first.profit(0, 1), 900);
        Check.same("and leaves no balance", first.balance(0, 1), 0);
        first.add(0, GROSS, 0, 0, 1000);
        Check.same("all sharers of the kind", first.profit(0, 0), 800);
        first.add(0, BONUS, 1000, 8, 0);
        Check.same("both kinds, just recouped", first.profit(0, 0), 0);
        Check.same("both kinds, no balance", first.balance(0, 0), 0);
    }

    private static void bonusACostOfItsYear() {
        Check.sentence("1: the sums of BONUS up to this year, less those up to the year before");
        NetPoints x = Start.fresh();
        x.add(0, BONUS, 0, 1, 0);
        x.add(0, BONUS, 10, 2, 0);
        x.add(0, BONUS, 20, 4, 0);
        x.add(1, BONUS, 0, 9, 0);
        Check.same("balance behind 0", x.balance(0, 0), 100);
        int[] due = {100, 100 - 10 + 200, 290 - 10 + 400, 680 - 10};
        for (int year = 1; year < 4; year++) {
            x.closeYear();
            x.receive(0, 0, 10);
            Check.same("balance behind " + year, x.balance(0, year), due[year]);
        }
        x.closeYear();
        Check.same("nothing in a year without receipts", x.balance(0, 4), 670);
    }

    private static void takenOffTheBalance() {
        Check.sentence("2: What comes in is taken off; what is below 0 is added to the profit");
        int[][] rows = {{99, 1, 0}, {100, 0, 0}, {101, 0, 1}, {200000, 0, 199900}};
        for (int[] row : rows) {
            NetPoints x = Start.fresh();
            x.spend(1, 100);
            x.receive(1, 0, row[0]);
            Check.same("balance with " + row[0], x.balance(1, 0), row[1]);
            Check.same("profit with " + row[0], x.profit(1, 0), row[2]);
        }
        NetPoints x = Start.fresh();
        x.receive(0, 0, 5);
        Check.same("nothing spent, the profit", x.profit(0, 0), 5);
        Check.same("nothing spent, the balance", x.balance(0, 0), 0);
        x.spend(1, 5);
        Check.same("nothing received, the profit", x.profit(1, 0), 0);
        Check.same("nothing received, the balance", x.balance(1, 0), 5);
    }

    private static void profitIsKept() {
        Check.sentence("2: the profit only grows by what is below 0");
        NetPoints x = Start.fresh();
        x.receive(0, 0, 100);
        x.closeYear();
        x.spend(0, 30);
        Check.same("later costs leave it", x.profit(0, 1), 100);
        Check.same("later costs are a balance", x.balance(0, 1), 30);
        x.closeYear();
        x.receive(0, 0, 31);
        Check.same("recouped, and 1 more", x.profit(0, 2), 101);
        Check.same("recouped", x.balance(0, 2), 0);
    }

    private static void crossedAsMuchAsPossible() {
        Check.sentence("3: as much as possible of the profit is moved to the other's balance");
        int[][] rows = {{1, 99, 0}, {99, 1, 0}, {100, 0, 0}, {101, 0, 1}, {200000, 0, 199900}};
        for (int p = 0; p < 2; p++) {
            for (int[] row : rows) {
                NetPoints x = Start.fresh();
                x.setCrossed(true);
                x.spend(1 - p, 100);
                x.receive(p, 0, row[0]);
                Check.same("balance, " + row[0] + " of " + p, x.balance(1 - p, 0), row[1]);
                Check.same("profit, " + row[0] + " of " + p, x.profit(p, 0), row[2]);
                Check.same("no balance of its own", x.balance(p, 0), 0);
                Check.same("no profit for the other", x.profit(1 - p, 0), 0);
                Check.same("the pool is what is left", x.pool(p), row[2]);
            }
        }
    }

    private static void crossedTheProfitOfThisYear() {
        Check.sentence("3: of the profit that the picture got in this year");
        for (int p = 0; p < 2; p++) {
            NetPoints x = Start.fresh();
            x.setCrossed(true);
            x.receive(p, 0, 500);
            x.closeYear();
            x.spend(1 - p, 400);
            Check.same("nothing of an earlier year", x.profit(p, 1), 500);
            Check.same("the balance stays", x.balance(1 - p, 1), 400);
            x.receive(p, 0, 1);
            Check.same("1 of this year goes", x.profit(p, 1), 500);
            Check.same("1 of this year is taken off", x.balance(1 - p, 1), 399);
            goOn(x, 9);
            x.receive(p, 0, 398);
            Check.same("a balance of earlier years, in the last year", x.balance(1 - p, 9), 1);
            x.receive(p, 0, 2);
            Check.same("no balance any more", x.balance(1 - p, 9), 0);
            Check.same("what is above stays", x.profit(p, 9), 501);
            Check.same("the year before is as it was", x.balance(1 - p, 8), 399);
        }
    }

    private static void crossedBehindTheSteps1And2() {
        Check.sentence("3: when both have done the steps 1 and 2 of this year");
        for (int p = 0; p < 2; p++) {
            NetPoints x = Start.fresh();
            x.setCrossed(true);
            x.setRates(1 - p, 0, 10000, 0);
            x.add(1 - p, BONUS, 0, 1, 0);
            x.receive(p, 0, 1000);
            x.spend(1 - p, 200);
            x.receive(1 - p, 0, 50);
            Check.same("costs, overhead, sums and what comes in", x.profit(p, 0), 1000 - 450);
            Check.same("the other's balance", x.balance(1 - p, 0), 0);
            x.add(p, GROSS, 0, 0, 1000);
            Check.same("its own sums come first", x.profit(p, 0), 900 - 450);
        }
    }

    private static void crossedAheadOfTheInterest() {
        Check.sentence("4 behind 3: the interest is of the balance that is left");
        for (int p = 0; p < 2; p++) {
            NetPoints x = Start.fresh();
            x.setRates(1 - p, 0, 0, 1000);
            x.spend(1 - p, 100);
            x.receive(p, 0, 90);
            Check.same("not crossed", x.balance(1 - p, 0), 110);
            x.setCrossed(true);
            Check.same("crossed", x.balance(1 - p, 0), 11);
            x.receive(p, 0, 10);
            Check.same("no interest on nothing", x.balance(1 - p, 0), 0);
            Check.same("no profit is left", x.profit(p, 0), 0);
        }
    }

    private static void crossedWithNothingToMove() {
        Check.sentence("3: nothing to move");
        NetPoints x = Start.fresh();
        x.setCrossed(true);
        Check.same("nothing at all", x.balance(0, 0) + x.balance(1, 0) + x.profit(0, 0), 0);
        x.spend(0, 5);
        x.spend(1, 6);
        Check.same("two balances, 0", x.balance(0, 0), 5);
        Check.same("two balances, 1", x.balance(1, 0), 6);
        x.receive(0, 0, 12);
        x.receive(1, 0, 14);
        Check.same("two profits, 0", x.profit(0, 0), 7);
        Check.same("two profits, 1", x.profit(1, 0), 8);
        Check.same("two profits, the balances", x.balance(0, 0) + x.balance(1, 0), 0);
    }

    private static void interestRoundedDown() {
        Check.sentence("4: the balance times the interest rate, divided by 10000, rounded down");
        NetPoints x = Start.fresh();
        x.setRates(0, 0, 0, 2000);
        x.spend(0, 4);
        Check.same("just below 1", x.balance(0, 0), 4);
        x.spend(0, 1);
        Check.same("just 1", x.balance(0, 0), 6);
        x.closeYear();
        Check.same("the balance with its interest", x.balance(0, 1), 7);
        x.receive(0, 0, 5);
        Check.same("of what is left", x.balance(0, 1), 1);
        x.receive(0, 0, 1);
        Check.same("no interest on nothing", x.balance(0, 1), 0);
        x.receive(0, 0, 100);
        Check.same("no interest on the profit", x.profit(0, 1), 100);
    }

    private static void poolLessTheDeferments() {
        Check.sentence("The pool: its profit, less the sums of all its sharers of DEFERMENT");
        NetPoints x = Start.fresh();
        x.setCrossed(true);
        x.add(0, DEFERMENT, 50, 0, 0);
        x.receive(0, 0, 100);
        x.spend(1, 30);
        Check.same("of the profit behind the crossing", x.pool(0), 20);
        x.spend(1, 21);
        Check.same("less than the break is left", x.sum(0), 49);
        Check.same("nothing is left", x.pool(0), 0);
    }

    private static void largestBalance() {
        Check.sentence("An object is used for at most 512 calls: the largest balance");
        NetPoints x = Start.fresh();
        x.setRates(0, 0, 10000, 2000);
        long due = 0;
        for (int i = 0; i < 492; i++) {
            x.spend(0, 200000);
            due += 400000;
        }
        for (int year = 0; year < 10; year++) {
            due += due * 2000 / 10000;
            Check.same("balance behind " + year, x.balance(0, year), due);
            if (year < 9) {
                x.closeYear();
            }
        }
    }

    private static void largestAudits() {
        Check.sentence("An object is used for at most 512 calls: all windows at the greatest audit");
        NetPoints x = Start.fresh();
        x.setRates(1, 10000, 0, 2000);
        for (int w = 0; w < 4; w++) {
            x.setFee(1, w, 10000);
        }
        long due = 0;
        for (int year = 0; year < 9; year++) {
            x.closeYear();
            for (int w = 0; w < 4; w++) {
                x.audit(1, year, w, 1000000);
            }
            due += 4000000;
            due += due * 2000 / 10000;
            Check.same("balance behind " + year, x.balance(1, year), due);
        }
        Check.same("gross", x.gross(1), 36000000);
        Check.same("fees", x.fees(1), 36000000);
        Check.same("adjusted", x.adjusted(1), 0);
        x.setRates(1, 0, 0, 0);
        x.setFee(1, 0, 0);
        Check.same("profit", x.profit(1, 9), 9000000);
    }
}
