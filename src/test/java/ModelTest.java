/** Runs of calls, always the same ones, on the class and on the plain model of the document. */
public final class ModelTest {
    private static final int RUNS = 3000;
    /** An object answers 512 calls; the last 17 are for a look at the money. */
    private static final int CALLS = 512 - 17;
    private static final int METHODS = 29;
    private static final long THROWN = Long.MAX_VALUE;
    private static final int[][] FAVOURED = {{7}, {6, 5}, {3, 6, 2}, {8}, {11}, {1}, {16}, {2, 3}};
    private static final int[] ODD = {Integer.MIN_VALUE, Integer.MAX_VALUE, -2, -1, 4, 6, 12, 80, 101, 1001};

    private final MuseumTill till = new MuseumTill();
    private final Model model = new Model();
    private final StringBuilder told = new StringBuilder();
    private long seed;
    /** How rare days' ends are in this run, and which calls it favours: runs are not all alike. */
    private final int daysRarity;
    private final int favoured;

    private ModelTest(long seed) {
        this.seed = seed * 7919 + 17;
        this.daysRarity = 1 + below(40);
        this.favoured = below(FAVOURED.length);
    }

    public static void main(String[] args) {
        for (int run = 0; run < RUNS && Check.isFaultless(); run++) {
            new ModelTest(run).run();
        }
        Check.end();
    }

    private void run() {
        for (int i = 0; i < CALLS && Check.isFaultless(); i++) {
            int method = drawMethod();
            int[] a = drawArguments(method);
            String name = method + "(" + a[0] + ", " + a[1] + ", " + a[2] + ")";
            told.append(name).append('\n');
            long want = modelAnswer(method, a);
            long got = tillAnswer(method, a);
            if (got != want) {
                System.out.println(told);
            }
            Check.due(name, got, want);
        }
        for (int house = -1; house < 4; house++) {
            Check.due("money(" + house + ")", till.money(house), model.money(house));
            Check.due("moneyBySeen(" + house + ")", till.moneyBySeen(house), model.money(house));
        }
        int all = till.money(-1) + till.money(0) + till.money(1) + till.money(2) + till.money(3);
        Check.due("held() and all money", till.held() + all, till.takings());
    }

    private int below(int bound) {
        seed = seed * 6364136223846793005L + 1442695040888963407L;
        return (int) ((seed >>> 33) % bound);
    }

    private int drawMethod() {
        int method = below(METHODS);
        if (method == 16 && favoured != 6 && below(daysRarity) != 0) {
            method = 7;
        }
        if ((method == 6 || method == 5) && favoured != 1 && favoured != 2 && below(4) != 0) {
            method = 7;
        }
        if (method >= 17 && below(3) == 0) {
            method = FAVOURED[favoured][below(FAVOURED[favoured].length)];
        }
        return method;
    }

    private int number(int bound) {
        return below(40) == 0 ? ODD[below(ODD.length)] : below(bound);
    }

    private int ticket() {
        int count = model.tickets();
        int newest = Math.min(count, 8);
        return below(8) != 0 && newest > 0 ? count - 1 - below(newest) : number(Math.max(1, count));
    }

    private int amount(int highest) {
        return below(2) == 0 ? number(12) : number(highest + 2) - (below(30) == 0 ? 1 : 0);
    }

    /** close is drawn as 0; tickets come back only where nearly all rooms are closed. */
    private boolean isClosing() {
        boolean isFew = below(6) == 0;
        return favoured == 2 || favoured == 7 ? !isFew : isFew;
    }

    private int[] drawArguments(int method) {
        switch (method) {
            case 0: return new int[] {number(5) - 1, amount(10000), 0};
            case 1: return new int[] {number(5) - 1, 0, 0};
            case 2: return new int[] {number(3), below(2), 0};
            case 3: case 8: case 19: case 20: return new int[] {ticket(), 0, 0};
            case 4: return new int[] {number(3), 0, 0};
            case 5: return new int[] {number(12), below(3) == 0 ? amount(20) : below(3), 0};
            case 6: return new int[] {number(12), isClosing() ? 0 : 1, 0};
            case 7: return new int[] {ticket(), below(2) == 0 ? number(3) : number(12), 0};
            case 9: case 21: return new int[] {number(12), 0, 0};
            case 10: case 12: return new int[] {number(12), number(12), 0};
            case 11: return new int[] {number(12), number(12), amount(1000)};
            case 13: return new int[] {number(12), amount(100), 0};
            case 14: return new int[] {number(4), number(12), amount(100000)};
            case 15: return new int[] {number(4), amount(100000), number(7) - 1};
            case 16: return new int[] {favoured == 6 ? 61 - below(12) : below(3) == 0 ? amount(60) : 1, 0, 0};
            case 22: return new int[] {number(12), number(4), 0};
            case 23: return new int[] {number(12), 0, 0};
            case 24: return new int[] {number(12), number(12), 0};
            case 25: case 26: return new int[] {number(5) - 1, 0, 0};
            default: return new int[] {0, 0, 0};
        }
    }

    private long tillAnswer(int method, int[] a) {
        try {
            return tillCall(method, a);
        } catch (RuntimeException e) {
            if (!Check.isThrownByTheTill(e)) {
                Check.fault("the machine or the library threw " + e);
            }
            return thrown(e);
        }
    }

    private long modelAnswer(int method, int[] a) {
        try {
            return modelCall(method, a);
        } catch (RuntimeException e) {
            return thrown(e);
        }
    }

    private static long thrown(RuntimeException e) {
        Class<?> kind = e.getClass();
        return kind == IndexOutOfBoundsException.class ? THROWN
                : kind == IllegalArgumentException.class ? THROWN - 1
                : kind == IllegalStateException.class ? THROWN - 2 : THROWN - 3;
    }

    private long tillCall(int method, int[] a) {
        switch (method) {
            case 0: return till.setPrice(a[0], a[1]);
            case 1: return till.buy(a[0]);
            case 2: return till.admit(a[0], a[1] != 0);
            case 3: return till.giveBack(a[0]);
            case 4: return till.join(a[0]);
            case 5: return till.setCap(a[0], a[1]);
            case 6: return till.close(a[0], a[1] == 0);
            case 7: return till.enter(a[0], a[1]) ? 1 : 0;
            case 8: return till.goOut(a[0]);
            case 9: return till.addWork(a[0]);
            case 10: return till.hang(a[0], a[1]);
            case 11: return till.lend(a[0], a[1], a[2]);
            case 12: return till.bringHome(a[0], a[1]);
            case 13: return till.setShare(a[0], a[1]);
            case 14: return till.sell(a[0], a[1], a[2]);
            case 15: return till.give(a[0], a[1], a[2]);
            case 16: return till.advance(a[0]);
            case 17: return till.day();
            case 18: return till.tickets();
            case 19: return till.whereIs(a[0]);
            case 20: return till.seen(a[0]);
            case 21: return till.inside(a[0]);
            case 22: return till.queued(a[0], a[1]);
            case 23: return till.views(a[0]);
            case 24: return till.titleAt(a[0], a[1]);
            case 25: return till.money(a[0]);
            case 26: return till.moneyBySeen(a[0]);
            case 27: return till.held();
            default: return till.takings();
        }
    }

    private long modelCall(int method, int[] a) {
        switch (method) {
            case 0: return model.setPrice(a[0], a[1]);
            case 1: return model.buy(a[0]);
            case 2: return model.admit(a[0], a[1] != 0);
            case 3: return model.giveBack(a[0]);
            case 4: return model.join(a[0]);
            case 5: return model.setCap(a[0], a[1]);
            case 6: return model.close(a[0], a[1] == 0);
            case 7: return model.enter(a[0], a[1]) ? 1 : 0;
            case 8: return model.goOut(a[0]);
            case 9: return model.addWork(a[0]);
            case 10: return model.hang(a[0], a[1]);
            case 11: return model.lend(a[0], a[1], a[2]);
            case 12: return model.bringHome(a[0], a[1]);
            case 13: return model.setShare(a[0], a[1]);
            case 14: return model.sell(a[0], a[1], a[2]);
            case 15: return model.give(a[0], a[1], a[2]);
            case 16: return model.advance(a[0]);
            case 17: return model.day();
            case 18: return model.tickets();
            case 19: return model.whereIs(a[0]);
            case 20: return model.seen(a[0]);
            case 21: return model.inside(a[0]);
            case 22: return model.queued(a[0], a[1]);
            case 23: return model.views(a[0]);
            case 24: return model.titleAt(a[0], a[1]);
            case 25: return model.money(a[0]);
            case 26: return model.moneyBySeen(a[0]);
            case 27: return model.held();
            default: return model.takings();
        }
    }
}
