/**
 * Runs of calls by chance (of a written seed, so the same each time) on BarMeasure and on PlainBar:
 * every answer must be the same. No run goes beyond 512 calls, as nothing is promised behind them.
 */
public final class RandomRunsTest {
    private static final int RUNS = 4000, BUSY_CALLS = 400, ALL_CALLS = 512;
    private static final int[] WILD = {Integer.MIN_VALUE, -1000000, -2, -1, 1000000, Integer.MAX_VALUE};

    private final BarMeasure x = new BarMeasure();
    private final PlainBar y = new PlainBar();
    private final StringBuilder told = new StringBuilder();
    private final int run;
    private long seed;
    private int calls = 0;
    private boolean differs = false;

    private RandomRunsTest(int run) {
        this.run = run;
        seed = 0x5DEECE66DL * (run + 1) + 11;
    }

    public static void main(String[] args) {
        for (int run = 0; run < RUNS; run++) {
            new RandomRunsTest(run).go();
        }
        Due.end();
    }

    private void go() {
        int busyKinds = 1 + chance(4);
        for (int i = 0; i < busyKinds; i++) {
            call(0);
            call(1);
        }
        for (int i = 0; i < 2 * busyKinds; i++) {
            call(2);
        }
        int focus = chance(5);
        while (calls < BUSY_CALLS && !differs) {
            call(pick(focus));
            askSomething();
        }
        while (calls < ALL_CALLS && !differs) {
            askSomething();
        }
    }

    /** Some runs are mostly of acts and NIGHTS, some of acts in long NIGHTS, some of plans, some of money, some of all. */
    private int pick(int focus) {
        if (chance(focus == 4 ? 20 : 4) == 0 || focus == 3) {
            return chance(33);
        }
        if (focus == 4) {
            return 4 + chance(chance(3) == 0 ? 8 : 6);
        }
        if (focus == 0) {
            return chance(30) == 0 ? 12 : 4 + chance(15);
        }
        return focus == 1 ? 2 + 18 * chance(2) + chance(6) : 26 + chance(7);
    }

    private int chance(int n) {
        seed = seed * 6364136223846793005L + 1442695040888963407L;
        return (int) ((seed >>> 33) % n);
    }

    /** Mostly a number from low to high; now and then one at, or just beyond, or far beyond the edges. */
    private int some(int low, int high) {
        switch (chance(24)) {
            case 0:
                return low;
            case 1:
                return high;
            case 2:
                return chance(3) == 0 ? low - 1 : high;
            case 3:
                return chance(3) == 0 ? high + 1 : low;
            case 4:
                return chance(6) == 0 ? WILD[chance(WILD.length)] : low;
            default:
                return high < low ? low : low + chance(high - low + 1);
        }
    }

    private int someKind() {
        return some(0, y.count(0) - 1);
    }

    private int someRecipe() {
        return some(0, y.count(1) - 1);
    }

    private void same(String name, long got, long due, int... args) {
        calls++;
        told.append(name).append(java.util.Arrays.toString(args)).append(" = ").append(due).append('\n');
        if (got != due && !differs) {
            differs = true;
            Due.tell("run " + run + ": the last of these answered " + got + "\n" + told);
        }
    }

    private void call(int which) {
        if (which < 13) {
            callActs(which);
        } else if (which < 25) {
            callBooksAndPlans(which);
        } else {
            callMoney(which);
        }
    }

    private void callActs(int which) {
        int bar = some(0, 1), kind = someKind(), recipe = someRecipe();
        int a, b, c;
        switch (which) {
            case 0:
                same("kind", x.kind(a = some(0, 2000), b = some(100, 2000), c = some(50, 150)), y.kind(a, b, c), a, b, c);
                break;
            case 1:
                same("recipe", x.recipe(a = some(0, 10000)), y.recipe(a), a);
                break;
            case 2:
                same("part", x.part(recipe, kind, a = some(0, chance(2) * 20)), y.part(recipe, kind, a), recipe, kind, a);
                break;
            case 3:
                a = some(0, 6);
                b = some(0, new int[] {50, 20, 100, 100, 10000, 50, 10, 9}[a < 0 || a > 6 ? 7 : a]);
                same("rule", x.rule(a, b), y.rule(a, b), a, b);
                break;
            case 4:
                same("receive", x.receive(kind, a = some(1, 100)), y.receive(kind, a), kind, a);
                break;
            case 5:
                same("issue", x.issue(bar, kind, a = some(1, 12)), y.issue(bar, kind, a), bar, kind, a);
                break;
            case 6:
                same("lend", x.lend(bar, kind, a = some(1, 3000)), y.lend(bar, kind, a), bar, kind, a);
                break;
            case 7:
                a = some(1, 1 + chance(100));
                same("sell", x.sell(bar, recipe, a, b = some(0, 6), c = some(0, 1439)), y.sell(bar, recipe, a, b, c), bar, recipe, a, b, c);
                break;
            case 8:
                same("lose", x.lose(bar, kind, a = some(0, 1), b = some(1, 10000)), y.lose(bar, kind, a, b), bar, kind, a, b);
                break;
            case 9:
                a = some(0, 50);
                same("weigh", x.weigh(bar, kind, a, b = some(0, 5000)), y.weigh(bar, kind, a, b), bar, kind, a, b);
                break;
            case 10:
                same("undo", x.undo(), y.undo());
                break;
            case 11:
                same("keeper", x.keeper(bar, a = some(0, 2)), y.keeper(bar, a), bar, a);
                break;
            default:
                same("night", x.night(), y.night());
                break;
        }
    }

    private void callBooksAndPlans(int which) {
        int bar = some(0, 1), kind = someKind();
        int a, b;
        switch (which) {
            case 13:
                same("has", x.has(a = some(0, 2), kind), y.has(a, kind), a, kind);
                break;
            case 14:
                same("all", x.all(kind, a = some(0, 4)), y.all(kind, a), kind, a);
                break;
            case 15:
                a = some(0, y.count(2));
                same("gap", x.gap(a, bar, kind, b = some(0, 4)), y.gap(a, bar, kind, b), a, bar, kind, b);
                break;
            case 16:
                same("over", x.over(a = some(0, 2), kind, b = some(0, 1)), y.over(a, kind, b), a, kind, b);
                break;
            case 17:
                same("leans", x.leans(a = some(0, 2), kind), y.leans(a, kind), a, kind);
                break;
            case 18:
                weighNear(bar, kind);
                break;
            case 19:
                same("takings", x.takings(bar), y.takings(bar), bar);
                break;
            case 20:
                same("foretell", x.foretell(a = some(0, 200), b = some(1, 100)), y.foretell(a, b), a, b);
                break;
            case 21:
                if (chance(5) == 0) {
                    same("forget", x.forget(), y.forget());
                }
                break;
            case 22:
                same("press", x.press(a = chance(2) == 0 ? -1 : some(0, 200)), y.press(a), a);
                break;
            case 23:
                same("makes", x.makes(a = some(0, (1 << y.count(0)) - 1)), y.makes(a), a);
                break;
            default:
                same("fewest", x.fewest(a = some(1, 1 + chance(12))), y.fewest(a), a);
                same("most", x.most(b = some(0, y.count(0))), y.most(b), b);
                break;
        }
    }

    /** Weighs near THE BOOK, so that GAPS lie about SPAN. */
    private void weighNear(int bar, int kind) {
        if (y.has(0, kind) == PlainBar.FAR_BAD || y.has(bar, kind) < 0 || bar < 0 || bar > 1) {
            return;
        }
        int grams = Math.min(5000, y.has(bar, kind) + chance(30) - 10);
        same("weigh", x.weigh(bar, kind, 0, grams), y.weigh(bar, kind, 0, grams), bar, kind, 0, grams);
    }

    private void callMoney(int which) {
        int a, b, c, d;
        switch (which) {
            case 25:
                same("count", x.count(a = some(0, 6)), y.count(a), a);
                break;
            case 26:
                a = some(0, 127);
                b = some(0, 1439);
                same("priceRule", x.priceRule(a, b, c = some(0, 1439), d = some(0, 200)), y.priceRule(a, b, c, d), a, b, c, d);
                break;
            case 27:
                a = someRecipe();
                same("price", x.price(a, b = some(0, 6), c = some(0, 1439)), y.price(a, b, c), a, b, c);
                break;
            case 28:
                same("person", x.person(a = some(0, 5), b = some(0, 10), c = some(0, 1440)), y.person(a, b, c), a, b, c);
                break;
            case 29:
                a = some(0, chance(2) == 0 ? 20 : 1000000);
                for (int i = 0; i < 6; i++) {
                    same("tips", x.tips(a, i), y.tips(a, i), a, i);
                }
                break;
            case 30:
                same("keg", x.keg(a = some(1000, 100000), b = some(0, 40)), y.keg(a, b), a, b);
                break;
            case 31:
                if (chance(6) == 0) {
                    int step = chance(2) == 0 ? 1 : 100;
                    a = some(1, 24);
                    b = step == 1 ? some(0, 100000) : a * step;
                    same("deal", x.deal(a, b), y.deal(a, b), a, b);
                }
                break;
            default:
                a = some(1, 120);
                same("buy", x.buy(a, b = some(0, 1 + y.count(5))), y.buy(a, b), a, b);
                break;
        }
    }

    /** A question that has an answer, of the books more often than of anything else. */
    private void askSomething() {
        int kinds = y.count(0);
        int bar = chance(2), kind = kinds == 0 ? 0 : chance(kinds), keeper = chance(3);
        int a = chance(5), b = chance(2), night = Math.max(0, y.count(2) - chance(chance(2) == 0 ? 3 : 20));
        switch (chance(8)) {
            case 0:
                same("count", x.count(a), y.count(a), a);
                break;
            case 1:
                same("takings", x.takings(bar), y.takings(bar), bar);
                break;
            case 2:
                same("has", x.has(a % 3, kind), y.has(a % 3, kind), a % 3, kind);
                break;
            case 3:
                same("all", x.all(kind, a), y.all(kind, a), kind, a);
                break;
            case 4:
                same("over", x.over(keeper, kind, b), y.over(keeper, kind, b), keeper, kind, b);
                break;
            case 5:
                same("leans", x.leans(keeper, kind), y.leans(keeper, kind), keeper, kind);
                break;
            default:
                same("gap", x.gap(night, bar, kind, a), y.gap(night, bar, kind, a), night, bar, kind, a);
                break;
        }
    }
}
