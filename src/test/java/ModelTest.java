import java.util.Arrays;
import java.util.Random;

/** Long runs of drawn calls, each answered by the program and by the model alike. */
public final class ModelTest {
    private static final int RUNS = 600;
    private static final int CALLS = 512;
    private static final String[] CHANGES = {"setRates", "setFee", "setCrossed", "add", "receive",
        "spend", "audit", "closeYear", "pay"};
    private static final String[] STATEMENTS = {"year", "gross", "adjusted", "fees", "balance",
        "profit", "pool", "sharers", "sum", "paid", "owed"};

    private final Random draws;
    private final NetPoints program = new NetPoints();
    private final Model model = new Model();
    private final int wrongCalls;
    private final int scale;

    private ModelTest(int seed) {
        draws = new Random(seed);
        wrongCalls = seed % 4 == 0 ? 10 : 200;
        scale = new int[] {20, 3000, 200000}[seed % 3];
    }

    public static void main(String[] args) {
        for (int seed = 1; seed <= RUNS; seed++) {
            new ModelTest(seed).run(seed);
        }
        Check.finish();
    }

    private void run(int seed) {
        for (int i = 0; i < CALLS; i++) {
            String name = draws.nextInt(3) > 0 ? CHANGES[weighed()] : any(STATEMENTS);
            int[] a = arguments(name);
            String due = answer(false, name, a);
            String got = answer(true, name, a);
            Check.holds("run " + seed + ", call " + i + ": " + name + Arrays.toString(a)
                + " answered " + got + ", due is " + due, got.equals(due));
        }
    }

    private int weighed() {
        int[] weights = {4, 6, 5, 8, 50, 30, 10, 6, 12};
        int draw = draws.nextInt(Arrays.stream(weights).sum());
        int at = 0;
        while (draw >= weights[at]) {
            draw -= weights[at++];
        }
        return at;
    }

    private String any(String[] names) {
        return names[draws.nextInt(names.length)];
    }

    /** Now and then a number at or beyond the ends of what is allowed. */
    private int between(int least, int most) {
        if (draws.nextInt(wrongCalls) == 0) {
            int[] ends = {least, most, least - 1, most + 1, Integer.MIN_VALUE, Integer.MAX_VALUE};
            return ends[draws.nextInt(ends.length)];
        }
        return least + draws.nextInt(most - least + 1);
    }

    private int amount(int least, int most) {
        return draws.nextInt(3) == 0 ? between(least, most) : between(least, Math.min(most, scale));
    }

    private int rate(int most) {
        return draws.nextInt(4) == 0 ? 0 : between(0, draws.nextInt(3) == 0 ? most : most / 5);
    }

    private int[] arguments(String name) {
        int p = between(0, 1);
        int now = program.year();
        switch (name) {
            case "setRates": return new int[] {p, rate(10000), rate(10000), rate(2000)};
            case "setFee": return new int[] {p, between(0, 3), rate(10000)};
            case "setCrossed": return new int[] {draws.nextInt(2)};
            case "add": return adding(p);
            case "receive": return new int[] {p, between(0, 3), amount(1, 200000)};
            case "spend": return new int[] {p, amount(1, 200000)};
            case "audit": return new int[] {p, between(Math.max(0, now - 3), Math.max(0, now - 1)),
                between(0, 3), amount(0, 1000000)};
            case "balance":
            case "profit": return new int[] {p, between(0, now)};
            case "pay":
            case "sum":
            case "paid":
            case "owed": return new int[] {between(0, Math.max(0, program.sharers() - 1))};
            case "gross":
            case "adjusted":
            case "fees":
            case "pool": return new int[] {p};
            default: return new int[0];
        }
    }

    private int[] adding(int p) {
        int kind = between(0, 3);
        int most = kind == NetPoints.GROSS ? 1000 : 10000;
        int limit = draws.nextInt(2) == 0 ? between(0, scale * 4) : between(0, 10000000);
        return new int[] {p, kind, limit, rate(most), rate(most)};
    }

    private String answer(boolean fromProgram, String name, int[] a) {
        try {
            return Long.toString(fromProgram ? asked(name, a) : model.call(name, a));
        } catch (RuntimeException e) {
            return "throws." + e.getClass().getSimpleName();
        }
    }

    private long asked(String name, int[] a) {
        switch (name) {
            case "setRates": program.setRates(a[0], a[1], a[2], a[3]); return 0;
            case "setFee": return program.setFee(a[0], a[1], a[2]);
            case "setCrossed": return program.setCrossed(a[0] == 1) ? 1 : 0;
            case "add": return program.add(a[0], a[1], a[2], a[3], a[4]);
            case "receive": return program.receive(a[0], a[1], a[2]);
            case "spend": return program.spend(a[0], a[1]);
            case "audit": return program.audit(a[0], a[1], a[2], a[3]);
            case "closeYear": return program.closeYear();
            case "pay": return program.pay(a[0]);
            case "year": return program.year();
            case "gross": return program.gross(a[0]);
            case "adjusted": return program.adjusted(a[0]);
            case "fees": return program.fees(a[0]);
            case "balance": return program.balance(a[0], a[1]);
            case "profit": return program.profit(a[0], a[1]);
            case "pool": return program.pool(a[0]);
            case "sharers": return program.sharers();
            case "sum": return program.sum(a[0]);
            case "paid": return program.paid(a[0]);
            case "owed": return program.owed(a[0]);
            default: throw new AssertionError(name);
        }
    }
}
