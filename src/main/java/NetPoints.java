import java.util.ArrayList;

/**
 * An accountant for shares in two pictures. All money is told in cents, all rates in hundredths of
 * a percent. Nothing that is owed is kept: each statement draws the books anew from the first year,
 * so that new terms and audits reach back into closed years.
 */
public final class NetPoints {
    public static final int GROSS = 0, NET = 1, DEFERMENT = 2, BONUS = 3;

    private static final int PICTURES = 2;
    private static final int WINDOWS = 4;
    private static final int YEARS = 10;
    private static final int MOST_SHARERS = 8;

    private static final int WHOLE = 10000;
    private static final int MOST_INTEREST = 2000;
    private static final int MOST_GROSS_RATE = 1000;
    private static final int BONUS_UNIT = 100;

    private static final int MOST_LIMIT = 10000000;
    private static final int MOST_AMOUNT = 200000;
    private static final int MOST_AUDITED = 1000000;
    private static final int YEARS_OPEN_TO_AUDIT = 3;

    private final Picture picture0;
    private final Picture picture1;
    private final ArrayList<Sharer> allSharers;
    private boolean crossed;
    private int yearOfNow;

    public NetPoints() {
        picture0 = new Picture();
        picture1 = new Picture();
        allSharers = new ArrayList<Sharer>();
        crossed = false;
        yearOfNow = 0;
    }

    // ---- terms

    public void setRates(int picture, int top, int overhead, int interest)
            throws IndexOutOfBoundsException, IllegalArgumentException {
        requirePicture(picture);
        requireRange(top, 0, WHOLE);
        requireRange(overhead, 0, WHOLE);
        requireRange(interest, 0, MOST_INTEREST);
        Picture which = pictureOf(picture);
        which.topRate = top;
        which.overheadRate = overhead;
        which.interestRate = interest;
    }

    public int setFee(int picture, int window, int rate)
            throws IndexOutOfBoundsException, IllegalArgumentException {
        requirePicture(picture);
        requireWindow(window);
        requireRange(rate, 0, WHOLE);
        Picture which = pictureOf(picture);
        int before = which.feeRates[window];
        which.feeRates[window] = rate;
        return before;
    }

    public boolean setCrossed(boolean isCrossed) {
        boolean before = crossed;
        crossed = isCrossed;
        return before;
    }

    public int add(int picture, int kind, int limit, int first, int second)
            throws IndexOutOfBoundsException, IllegalArgumentException, IllegalStateException {
        requirePicture(picture);
        requireRange(kind, GROSS, BONUS);
        requireRange(limit, 0, MOST_LIMIT);
        int mostRate = kind == GROSS ? MOST_GROSS_RATE : WHOLE;
        requireRange(first, 0, mostRate);
        requireRange(second, 0, mostRate);
        Picture which = pictureOf(picture);
        requireRoom(which, kind, Math.max(first, second));
        Sharer sharer = new Sharer(which, which.sharers.size(), kind, limit, first, second);
        which.sharers.add(sharer);
        allSharers.add(sharer);
        return allSharers.size() - 1;
    }

    // ---- what comes and goes

    public int receive(int picture, int window, int amount)
            throws IndexOutOfBoundsException, IllegalArgumentException {
        requirePicture(picture);
        requireWindow(window);
        requireRange(amount, 1, MOST_AMOUNT);
        int[] receipts = pictureOf(picture).receipts[yearOfNow];
        receipts[window] += amount;
        return receipts[window];
    }

    public int spend(int picture, int amount)
            throws IndexOutOfBoundsException, IllegalArgumentException {
        requirePicture(picture);
        requireRange(amount, 1, MOST_AMOUNT);
        int[] costs = pictureOf(picture).costs;
        costs[yearOfNow] += amount;
        return costs[yearOfNow];
    }

    public int audit(int picture, int year, int window, int amount)
            throws IndexOutOfBoundsException, IllegalArgumentException, IllegalStateException {
        requirePicture(picture);
        requireWindow(window);
        requireRange(amount, 0, MOST_AUDITED);
        requireOpenToAudit(year);
        int[] receipts = pictureOf(picture).receipts[year];
        int before = receipts[window];
        receipts[window] = amount;
        return before;
    }

    public int closeYear() throws IllegalStateException {
        if (yearOfNow >= YEARS - 1) {
            throw new IllegalStateException("the last year cannot be closed");
        }
        yearOfNow++;
        return yearOfNow;
    }

    public int pay(int sharer) throws IndexOutOfBoundsException, IllegalStateException {
        requireSharer(sharer);
        Sharer payee = allSharers.get(sharer);
        long due = drawnSum(payee) - payee.paidSoFar;
        if (due <= 0) {
            throw new IllegalStateException("nothing is owed");
        }
        payee.paidSoFar += due;
        return (int) due;
    }

    // ---- statements

    public int year() {
        return yearOfNow;
    }

    public int gross(int picture) throws IndexOutOfBoundsException {
        requirePicture(picture);
        drawBooks();
        return (int) pictureOf(picture).grossSoFar;
    }

    public int adjusted(int picture) throws IndexOutOfBoundsException {
        requirePicture(picture);
        drawBooks();
        return (int) pictureOf(picture).adjustedSoFar;
    }

    public int fees(int picture) throws IndexOutOfBoundsException {
        requirePicture(picture);
        drawBooks();
        return (int) pictureOf(picture).feesSoFar;
    }

    public int balance(int picture, int year)
            throws IndexOutOfBoundsException, IllegalArgumentException {
        requirePicture(picture);
        requireRange(year, 0, yearOfNow);
        drawBooks();
        return (int) pictureOf(picture).balances[year];
    }

    public int profit(int picture, int year)
            throws IndexOutOfBoundsException, IllegalArgumentException {
        requirePicture(picture);
        requireRange(year, 0, yearOfNow);
        drawBooks();
        return (int) pictureOf(picture).profits[year];
    }

    public int pool(int picture) throws IndexOutOfBoundsException {
        requirePicture(picture);
        drawBooks();
        return (int) pictureOf(picture).poolDrawn();
    }

    public int sharers() {
        return allSharers.size();
    }

    public int sum(int sharer) throws IndexOutOfBoundsException {
        requireSharer(sharer);
        return (int) drawnSum(allSharers.get(sharer));
    }

    public int paid(int sharer) throws IndexOutOfBoundsException {
        requireSharer(sharer);
        return (int) allSharers.get(sharer).paidSoFar;
    }

    public int owed(int sharer) throws IndexOutOfBoundsException {
        requireSharer(sharer);
        Sharer creditor = allSharers.get(sharer);
        return (int) (drawnSum(creditor) - creditor.paidSoFar);
    }

    // ---- what a call must hold to

    private static void requirePicture(int picture) {
        if (picture < 0 || picture >= PICTURES) {
            throw new IndexOutOfBoundsException("there is no such picture");
        }
    }

    private static void requireWindow(int window) {
        if (window < 0 || window >= WINDOWS) {
            throw new IndexOutOfBoundsException("there is no such window");
        }
    }

    private static void requireRange(int value, int least, int most) {
        if (value < least || value > most) {
            throw new IllegalArgumentException("an argument is out of range");
        }
    }

    private void requireSharer(int sharer) {
        if (sharer < 0 || sharer >= allSharers.size()) {
            throw new IndexOutOfBoundsException("there is no such sharer");
        }
    }

    private void requireRoom(Picture picture, int kind, int greaterRate) {
        if (allSharers.size() >= MOST_SHARERS) {
            throw new IllegalStateException("there are as many sharers as there can be");
        }
        if (kind == NET && picture.netRatesGiven() + greaterRate > WHOLE) {
            throw new IllegalStateException("more than the whole of the net would be given away");
        }
    }

    private void requireOpenToAudit(int year) {
        if (year < 0 || year < yearOfNow - YEARS_OPEN_TO_AUDIT || year >= yearOfNow) {
            throw new IllegalStateException("the year is not closed, or too long ago");
        }
    }

    // ---- the books

    private Picture pictureOf(int number) {
        return number == 0 ? picture0 : picture1;
    }

    private long drawnSum(Sharer sharer) {
        drawBooks();
        return sharer.picture.sumDrawn(sharer);
    }

    // Both pictures are drawn year by year side by side, because crossing moves a year's profit
    // before the interest of that very year is reckoned.
    private void drawBooks() {
        picture0.startBooks();
        picture1.startBooks();
        for (int y = 0; y < YEARS && y <= yearOfNow; y++) {
            long gain0 = picture0.recoup(y);
            long gain1 = picture1.recoup(y);
            if (crossed) {
                picture0.moveGain(gain0, picture1);
                picture1.moveGain(gain1, picture0);
            }
            picture0.finishYear(y);
            picture1.finishYear(y);
        }
    }

    private static long part(long amount, int rate) {
        return amount * rate / WHOLE;
    }

    /** A picture's terms and entries, and the books that were last drawn from them. */
    private static final class Picture {
        final int[][] receipts = new int[YEARS][WINDOWS];
        final int[] costs = new int[YEARS];
        final int[] feeRates = new int[WINDOWS];
        final ArrayList<Sharer> sharers = new ArrayList<Sharer>();
        int topRate;
        int overheadRate;
        int interestRate;

        final long[] balances = new long[YEARS];
        final long[] profits = new long[YEARS];
        long grossSoFar;
        long adjustedSoFar;
        long feesSoFar;
        long sharesSoFar;
        long balanceSoFar;
        long profitSoFar;

        int netRatesGiven() {
            int given = 0;
            for (int i = 0; i < sharers.size(); i++) {
                Sharer sharer = sharers.get(i);
                if (sharer.kind == NET) {
                    given += Math.max(sharer.first, sharer.second);
                }
            }
            return given;
        }

        void startBooks() {
            grossSoFar = 0;
            adjustedSoFar = 0;
            feesSoFar = 0;
            sharesSoFar = 0;
            balanceSoFar = 0;
            profitSoFar = 0;
        }

        // Answers the profit got in this year alone, for crossing may move no more than that.
        long recoup(int year) {
            long gross = grossIn(year);
            long adjusted = gross - part(gross, topRate);
            long fees = feesIn(year);
            grossSoFar += gross;
            adjustedSoFar += adjusted;
            feesSoFar += fees;
            long shares = sharesThatAreCosts();
            balanceSoFar += costs[year] + part(costs[year], overheadRate) + shares - sharesSoFar;
            sharesSoFar = shares;
            balanceSoFar -= adjusted - fees;
            if (balanceSoFar >= 0) {
                return 0;
            }
            long gain = -balanceSoFar;
            profitSoFar += gain;
            balanceSoFar = 0;
            return gain;
        }

        void moveGain(long gain, Picture other) {
            long moved = Math.min(gain, other.balanceSoFar);
            profitSoFar -= moved;
            other.balanceSoFar -= moved;
        }

        void finishYear(int year) {
            balanceSoFar += part(balanceSoFar, interestRate);
            balances[year] = balanceSoFar;
            profits[year] = profitSoFar;
        }

        long sumDrawn(Sharer sharer) {
            switch (sharer.kind) {
                case GROSS:
                    return sharer.shareOf(adjustedSoFar);
                case NET:
                    return sharer.shareOf(poolDrawn());
                case DEFERMENT:
                    return Math.min(sharer.limit, profitLeftAt(sharer.turn));
                default:
                    return sharer.bonusAt(grossSoFar);
            }
        }

        long poolDrawn() {
            return profitLeftAt(sharers.size());
        }

        private long grossIn(int year) {
            long gross = 0;
            for (int w = 0; w < WINDOWS; w++) {
                gross += receipts[year][w];
            }
            return gross;
        }

        private long feesIn(int year) {
            long fees = 0;
            for (int w = 0; w < WINDOWS; w++) {
                fees += part(receipts[year][w], feeRates[w]);
            }
            return fees;
        }

        private long sharesThatAreCosts() {
            long shares = 0;
            for (int i = 0; i < sharers.size(); i++) {
                Sharer sharer = sharers.get(i);
                if (sharer.kind == GROSS) {
                    shares += sharer.shareOf(adjustedSoFar);
                } else if (sharer.kind == BONUS) {
                    shares += sharer.bonusAt(grossSoFar);
                }
            }
            return shares;
        }

        // Sharers are never taken away, so the order of this list is the order of their numbers.
        private long profitLeftAt(int turn) {
            long left = profitSoFar;
            for (int i = 0; i < sharers.size() && i < turn; i++) {
                Sharer ahead = sharers.get(i);
                if (ahead.kind == DEFERMENT) {
                    left -= Math.min(ahead.limit, left);
                }
            }
            return left;
        }
    }

    /** Somebody with a share in a picture; the turn is the place among that picture's sharers. */
    private static final class Sharer {
        final Picture picture;
        final int turn;
        final int kind;
        final int limit;
        final int first;
        final int second;
        long paidSoFar;

        Sharer(Picture picture, int turn, int kind, int limit, int first, int second) {
            this.picture = picture;
            this.turn = turn;
            this.kind = kind;
            this.limit = limit;
            this.first = first;
            this.second = second;
        }

        long shareOf(long amount) {
            long below = Math.min(amount, limit);
            long above = amount - below;
            return (below * first + above * second) / WHOLE;
        }

        long bonusAt(long grossSoFar) {
            return grossSoFar >= limit ? (long) first * BONUS_UNIT : 0;
        }
    }
}
