import java.math.BigInteger;
import java.util.ArrayList;
import java.util.List;

/**
 * The document told a second time, slowly: no figure is carried along, each is reckoned from its
 * definition, so that it shares no shortcut with the program that it judges.
 */
final class Model {
    private static final BigInteger WHOLE = BigInteger.valueOf(10000);

    private final long[][][] receipts = new long[2][10][4];
    private final long[][] costs = new long[2][10];
    private final int[][] feeRates = new int[2][4];
    private final int[][] rates = new int[2][3];
    private final List<int[]> sharers = new ArrayList<>();
    private final List<Long> payments = new ArrayList<>();
    private boolean crossed;
    private int now;

    /** The same call as the program's, told by its name; an exception is due as itself. */
    long call(String name, int... a) {
        switch (name) {
            case "setRates": return setRates(a);
            case "setFee": return setFee(a);
            case "setCrossed": return setCrossed(a[0] == 1);
            case "add": return add(a);
            case "receive": return receive(a);
            case "spend": return spend(a);
            case "audit": return audit(a);
            case "closeYear": return closeYear();
            case "pay": return pay(a[0]);
            case "year": return now;
            case "gross": return picture(a[0]) < 0 ? 0 : grossUpTo(a[0], now);
            case "adjusted": return picture(a[0]) < 0 ? 0 : adjustedUpTo(a[0], now);
            case "fees": return picture(a[0]) < 0 ? 0 : feesUpTo(a[0], now);
            case "balance": return behind(a[0], a[1])[a[0]][0];
            case "profit": return behind(a[0], a[1])[a[0]][1];
            case "pool": return picture(a[0]) < 0 ? 0 : pool(a[0]);
            case "sharers": return sharers.size();
            case "sum": return sum(sharer(a[0]));
            case "paid": return payments.get(sharer(a[0]));
            case "owed": return sum(sharer(a[0])) - payments.get(a[0]);
            default: throw new AssertionError(name);
        }
    }

    private static int picture(int p) {
        if (p != 0 && p != 1) {
            throw new IndexOutOfBoundsException();
        }
        return p;
    }

    private static void window(int w) {
        if (w < 0 || w > 3) {
            throw new IndexOutOfBoundsException();
        }
    }

    private int sharer(int s) {
        if (s < 0 || s >= sharers.size()) {
            throw new IndexOutOfBoundsException();
        }
        return s;
    }

    private static void between(int value, int least, int most) {
        if (value < least || value > most) {
            throw new IllegalArgumentException();
        }
    }

    private static void allowed(boolean is) {
        if (!is) {
            throw new IllegalStateException();
        }
    }

    private long setRates(int[] a) {
        picture(a[0]);
        between(a[1], 0, 10000);
        between(a[2], 0, 10000);
        between(a[3], 0, 2000);
        rates[a[0]] = new int[] {a[1], a[2], a[3]};
        return 0;
    }

    private long setFee(int[] a) {
        picture(a[0]);
        window(a[1]);
        between(a[2], 0, 10000);
        long before = feeRates[a[0]][a[1]];
        feeRates[a[0]][a[1]] = a[2];
        return before;
    }

    private long setCrossed(boolean is) {
        long before = crossed ? 1 : 0;
        crossed = is;
        return before;
    }

    private long add(int[] a) {
        picture(a[0]);
        between(a[1], 0, 3);
        between(a[2], 0, 10000000);
        between(a[3], 0, a[1] == 0 ? 1000 : 10000);
        between(a[4], 0, a[1] == 0 ? 1000 : 10000);
        allowed(sharers.size() < 8);
        int net = Math.max(a[3], a[4]);
        for (int[] other : sharers) {
            net += other[0] == a[0] && other[1] == 1 ? Math.max(other[3], other[4]) : 0;
        }
        allowed(a[1] != 1 || net <= 10000);
        sharers.add(a.clone());
        payments.add(0L);
        return sharers.size() - 1;
    }

    private long receive(int[] a) {
        picture(a[0]);
        window(a[1]);
        between(a[2], 1, 200000);
        return receipts[a[0]][now][a[1]] += a[2];
    }

    private long spend(int[] a) {
        picture(a[0]);
        between(a[1], 1, 200000);
        return costs[a[0]][now] += a[1];
    }

    private long audit(int[] a) {
        picture(a[0]);
        window(a[2]);
        between(a[3], 0, 1000000);
        allowed(a[1] >= 0 && a[1] < now && (long) now - a[1] <= 3);
        long before = receipts[a[0]][a[1]][a[2]];
        receipts[a[0]][a[1]][a[2]] = a[3];
        return before;
    }

    private long closeYear() {
        allowed(now < 9);
        return ++now;
    }

    private long pay(int s) {
        long due = sum(sharer(s)) - payments.get(s);
        allowed(due > 0);
        payments.set(s, payments.get(s) + due);
        return due;
    }

    private static long share(long amount, long rate) {
        return BigInteger.valueOf(amount).multiply(BigInteger.valueOf(rate)).divide(WHOLE).longValueExact();
    }

    private long grossOf(int p, int y) {
        return receipts[p][y][0] + receipts[p][y][1] + receipts[p][y][2] + receipts[p][y][3];
    }

    private long grossUpTo(int p, int y) {
        return y < 0 ? 0 : grossUpTo(p, y - 1) + grossOf(p, y);
    }

    private long adjustedOf(int p, int y) {
        return grossOf(p, y) - share(grossOf(p, y), rates[p][0]);
    }

    private long adjustedUpTo(int p, int y) {
        return y < 0 ? 0 : adjustedUpTo(p, y - 1) + adjustedOf(p, y);
    }

    private long feesOf(int p, int y) {
        long fees = 0;
        for (int w = 0; w < 4; w++) {
            fees += share(receipts[p][y][w], feeRates[p][w]);
        }
        return fees;
    }

    private long feesUpTo(int p, int y) {
        return y < 0 ? 0 : feesUpTo(p, y - 1) + feesOf(p, y);
    }

    private static long broken(int[] s, long amount) {
        BigInteger low = BigInteger.valueOf(Math.min(amount, s[2])).multiply(BigInteger.valueOf(s[3]));
        BigInteger high = BigInteger.valueOf(Math.max(amount - s[2], 0)).multiply(BigInteger.valueOf(s[4]));
        return low.add(high).divide(WHOLE).longValueExact();
    }

    private long bonus(int[] s, int y) {
        for (int from = 0; from <= y; from++) {
            if (grossUpTo(s[0], from) >= s[2]) {
                return 100L * s[3];
            }
        }
        return 0;
    }

    private long sharesUpTo(int p, int y) {
        long sum = 0;
        for (int[] s : sharers) {
            if (y >= 0 && s[0] == p && s[1] == 0) {
                sum += broken(s, adjustedUpTo(p, y));
            }
            if (y >= 0 && s[0] == p && s[1] == 3) {
                sum += bonus(s, y);
            }
        }
        return sum;
    }

    private long[][] behind(int p, int year) {
        picture(p);
        between(year, 0, now);
        return books(year);
    }

    /** Of each picture the balance and the profit behind a year. */
    private long[][] books(int y) {
        if (y < 0) {
            return new long[2][2];
        }
        long[][] books = books(y - 1);
        long[] got = new long[2];
        for (int p = 0; p < 2; p++) {
            long balance = books[p][0] + costs[p][y] + share(costs[p][y], rates[p][1])
                + sharesUpTo(p, y) - sharesUpTo(p, y - 1) - adjustedOf(p, y) + feesOf(p, y);
            got[p] = Math.max(0, -balance);
            books[p][0] = Math.max(0, balance);
            books[p][1] += got[p];
        }
        for (int p = 0; crossed && p < 2; p++) {
            long moved = Math.min(got[p], books[1 - p][0]);
            books[p][1] -= moved;
            books[1 - p][0] -= moved;
        }
        for (int p = 0; p < 2; p++) {
            books[p][0] += share(books[p][0], rates[p][2]);
        }
        return books;
    }

    private long pool(int p) {
        long pool = books(now)[p][1];
        for (int s = 0; s < sharers.size(); s++) {
            pool -= sharers.get(s)[0] == p && sharers.get(s)[1] == 2 ? sum(s) : 0;
        }
        return pool;
    }

    private long sum(int number) {
        int[] s = sharers.get(number);
        switch (s[1]) {
            case 0: return broken(s, adjustedUpTo(s[0], now));
            case 1: return broken(s, pool(s[0]));
            case 3: return bonus(s, now);
            default: break;
        }
        long left = books(now)[s[0]][1];
        for (int before = 0; before < number; before++) {
            int[] other = sharers.get(before);
            left -= other[0] == s[0] && other[1] == 2 ? sum(before) : 0;
        }
        return Math.min(s[2], left);
    }
}
