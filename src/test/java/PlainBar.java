import java.math.BigInteger;
import java.util.ArrayList;
import java.util.Arrays;
import java.util.List;

/**
 * The document once more, as slowly and plainly as it can be said: a list of events that every
 * question reads from its start. It shares no way of reckoning with BarMeasure, so that a fault
 * in one shows as an answer in which the two differ.
 */
final class PlainBar {
    static final int BAD = -1, NO = -2, FULL = -3, NONE = -4;
    static final int FAR_BAD = -1000000000, FAR_NO = -1000000002, FAR_NONE = -1000000004;

    /** What happened, with all that was so when it did. */
    private static final class Event {
        int what, night, bar, thing, n, price, span;
        int[] partsThen;
        boolean undone;
    }

    private final List<int[]> kinds = new ArrayList<>();
    private final List<Integer> recipePrices = new ArrayList<>();
    private final int[][] parts = new int[12][10];
    private final int[] settings = {2, 1, 1, 1, 0, 5, 2};
    private final List<Event> events = new ArrayList<>();
    private final List<Event> undoable = new ArrayList<>();
    private final int[][] keepers = new int[20][2];
    private final boolean[][] soldIn = new boolean[20][12];
    private int now = 0;
    private final List<int[]> foretold = new ArrayList<>();
    private final List<int[]> priceRules = new ArrayList<>();
    private final long[] points = new long[6], minutes = new long[6];
    private final List<int[]> deals = new ArrayList<>();

    int kind(int tare, int size, int dense) {
        if (tare < 0 || tare > 2000 || size < 100 || size > 2000 || dense < 50 || dense > 150) return BAD;
        if (kinds.size() == 10) return FULL;
        kinds.add(new int[] {tare, size, dense});
        return kinds.size() - 1;
    }

    int recipe(int price) {
        if (price < 0 || price > 10000) return BAD;
        if (recipePrices.size() == 12) return FULL;
        recipePrices.add(price);
        return recipePrices.size() - 1;
    }

    int part(int recipe, int kind, int n) {
        if (noRecipe(recipe) || noKind(kind) || n < 0 || n > 20) return BAD;
        if (soldIn[now][recipe]) return NO;
        int was = parts[recipe][kind];
        parts[recipe][kind] = n;
        return was;
    }

    int rule(int what, int v) {
        int[] limits = {50, 20, 100, 100, 10000, 50, 10};
        if (what < 0 || what > 6 || v < 0 || v > limits[what]) return BAD;
        int was = settings[what];
        settings[what] = v;
        return was;
    }

    int receive(int kind, int n) {
        if (noKind(kind) || n < 1 || n > 100) return BAD;
        if (store(kind) + n > 1000) return FULL;
        happen(0, 0, kind, n);
        return store(kind);
    }

    int issue(int bar, int kind, int n) {
        if (noBar(bar) || noKind(kind) || n < 1 || n > 100) return FAR_BAD;
        if (store(kind) < n) return FAR_NO;
        happen(1, bar, kind, n);
        return book(bar, kind);
    }

    int lend(int bar, int kind, int ml) {
        if (noBar(bar) || noKind(kind) || ml < 1 || ml > 10000) return FAR_BAD;
        if (book(bar, kind) < ml) return FAR_NO;
        happen(2, bar, kind, ml);
        return book(bar == 0 ? 1 : 0, kind);
    }

    int sell(int bar, int recipe, int n, int day, int minute) {
        if (noBar(bar) || n < 1 || n > 100) return BAD;
        int each = price(recipe, day, minute);
        if (each == BAD) return BAD;
        happen(3, bar, recipe, n).price = each * n;
        soldIn[now][recipe] = true;
        return each * n;
    }

    int lose(int bar, int kind, int what, int ml) {
        if (noBar(bar) || noKind(kind) || what < 0 || what > 1 || ml < 1 || ml > 10000) return FAR_BAD;
        happen(4 + what, bar, kind, ml);
        return book(bar, kind);
    }

    int weigh(int bar, int kind, int bottles, int grams) {
        if (noBar(bar) || noKind(kind) || bottles < 0 || bottles > 50 || grams < 0 || grams > 5000) return FAR_BAD;
        if (weighing(now, bar, kind) != null) return FAR_NO;
        int[] k = kinds.get(kind);
        int open = grams < k[0] ? 0 : grams - k[0];
        int gap = book(bar, kind) - (k[1] * bottles + open * 100 / k[2]);
        int span = spanAsNow(now, bar, kind);
        happen(6, bar, kind, gap).span = span;
        return gap;
    }

    int undo() {
        if (undoable.isEmpty()) return NO;
        Event latest = undoable.remove(undoable.size() - 1);
        latest.undone = true;
        return latest.what;
    }

    int keeper(int bar, int keeper) {
        if (noBar(bar) || keeper < 0 || keeper > 2) return BAD;
        int was = keepers[now][bar];
        for (int night = now; night < 20; night++) keepers[night][bar] = keeper;
        return was;
    }

    int night() {
        if (now == 19) return FULL;
        undoable.clear();
        return ++now;
    }

    int has(int bar, int kind) {
        if (bar < 0 || bar > 2 || noKind(kind)) return FAR_BAD;
        return bar == 2 ? store(kind) : book(bar, kind);
    }

    int all(int kind, int what) {
        if (noKind(kind) || what < 0 || what > 4) return FAR_BAD;
        int sum = 0;
        for (Event e : events) {
            if (e.undone) continue;
            if (what == 0 && e.what == 3) sum += 6 * e.n * e.partsThen[kind];
            if (what == 1 && e.what == 4 && e.thing == kind) sum += e.n;
            if (what == 2 && e.what == 5 && e.thing == kind) sum += e.n;
            if (what == 3 && e.what == 6 && e.thing == kind) sum += e.n;
            if (what == 4 && e.what == 0 && e.thing == kind) sum += e.n;
        }
        return sum;
    }

    int gap(int night, int bar, int kind, int what) {
        if (night < 0 || night > now || noBar(bar) || noKind(kind) || what < 0 || what > 4) return FAR_BAD;
        Event weighing = weighing(night, bar, kind);
        if (what == 0) return weighing == null ? FAR_NONE : weighing.n;
        if (what == 1) return weighing == null ? spanAsNow(night, bar, kind) : weighing.span;
        if (what == 2) return isTold(weighing) ? 1 : 0;
        return what == 3 ? drinks(night, bar, kind) : keepers[night][bar];
    }

    long over(int keeper, int kind, int part) {
        if (keeper < 0 || keeper > 2 || noKind(kind) || part < 0 || part > 1) return FAR_BAD;
        List<Event> counted = counted(keeper, kind);
        if (counted.size() < 3) return FAR_NONE;
        BigInteger above = BigInteger.ZERO, below = BigInteger.ZERO;
        for (Event e : counted) {
            BigInteger drinks = BigInteger.valueOf(drinks(e.night, e.bar, kind));
            above = above.add(drinks.multiply(BigInteger.valueOf(e.n)));
            below = below.add(drinks.pow(2));
        }
        BigInteger answer = part == 0 ? above : below;
        return answer.divide(above.gcd(below)).longValueExact();
    }

    int leans(int keeper, int kind) {
        if (keeper < 0 || keeper > 2 || noKind(kind)) return BAD;
        int told = 0;
        for (Event e : counted(keeper, kind)) if (isTold(e)) told++;
        return told;
    }

    int takings(int bar) {
        if (noBar(bar)) return BAD;
        int sum = 0;
        for (Event e : events) if (e.what == 3 && !e.undone && e.bar == bar) sum += e.price;
        return sum;
    }

    int foretell(int amount, int weight) {
        if (amount < 0 || amount > 200 || weight < 1 || weight > 100) return BAD;
        if (foretold.size() == 8) return FULL;
        foretold.add(new int[] {amount, weight});
        return foretold.size();
    }

    int forget() {
        int were = foretold.size();
        foretold.clear();
        return were;
    }

    /** COST bends at the amounts alone: a least one lies there or at 0. */
    int press(int q) {
        if (foretold.isEmpty()) return NO;
        if (q < -1 || q > 200) return BAD;
        if (q >= 0) return cost(q);
        List<Integer> bends = new ArrayList<>(List.of(0));
        for (int[] f : foretold) bends.add(f[0]);
        int best = 0;
        for (int bend : bends) {
            if (cost(bend) < cost(best) || cost(bend) == cost(best) && bend < best) best = bend;
        }
        return best;
    }

    int makes(int set) {
        if (set < 0 || set >= 1 << kinds.size()) return BAD;
        int made = 0;
        for (int r = 0; r < recipePrices.size(); r++) {
            int has = 0, lacks = 0;
            for (int k = 0; k < 10; k++) {
                if (parts[r][k] > 0 && (set & 1 << k) != 0) has++;
                if (parts[r][k] > 0 && (set & 1 << k) == 0) lacks++;
            }
            if (has > 0 && lacks == 0) made++;
        }
        return made;
    }

    /** A set of fewest KINDS is just what some m RECIPES need together. */
    int fewest(int m) {
        if (m < 1 || m > 12) return BAD;
        int best = NONE;
        for (int some = 0; some < 1 << recipePrices.size(); some++) {
            if (Integer.bitCount(some) != m) continue;
            int together = 0;
            boolean allHaveParts = true;
            for (int r = 0; r < 12; r++) {
                if ((some & 1 << r) == 0) continue;
                allHaveParts &= needs(r) != 0;
                together |= needs(r);
            }
            if (allHaveParts && (best == NONE || rank(together) < rank(best))) best = together;
        }
        return best;
    }

    int most(int k) {
        if (k < 0 || k > kinds.size()) return BAD;
        int best = -1;
        for (int set = (1 << kinds.size()) - 1; set >= 0; set--) {
            if (Integer.bitCount(set) == k && (best < 0 || makes(set) >= makes(best))) best = set;
        }
        return best;
    }

    int priceRule(int days, int from, int to, int hundredths) {
        if (days < 0 || days > 127 || from < 0 || from > 1439 || to < 0 || to > 1439) return BAD;
        if (hundredths < 0 || hundredths > 200) return BAD;
        if (priceRules.size() == 12) return FULL;
        priceRules.add(new int[] {days, from, to, hundredths});
        return priceRules.size();
    }

    /** A RULE is a stretch of minutes of the week for each of its DAYS. */
    int price(int recipe, int day, int minute) {
        if (noRecipe(recipe) || day < 0 || day > 6 || minute < 0 || minute > 1439) return BAD;
        int result = recipePrices.get(recipe);
        for (int[] rule : priceRules) {
            int length = rule[2] - rule[1] + (rule[2] > rule[1] ? 0 : 1440);
            for (int d = 0; d < 7; d++) {
                int since = Math.floorMod(day * 1440 + minute - d * 1440 - rule[1], 7 * 1440);
                if ((rule[0] & 1 << d) != 0 && since < length) result = recipePrices.get(recipe) * rule[3] / 100;
            }
        }
        return result < settings[4] ? settings[4] : result;
    }

    int person(int person, int p, int m) {
        if (person < 0 || person > 5 || p < 0 || p > 10 || m < 0 || m > 1440) return BAD;
        points[person] = p;
        minutes[person] = m;
        return 0;
    }

    int tips(int amount, int person) {
        if (amount < 0 || amount > 1000000 || person < 0 || person > 5) return BAD;
        long total = 0;
        for (int i = 0; i < 6; i++) total += points[i] * minutes[i];
        if (total == 0) return NO;
        long[] gets = new long[6], rests = new long[6];
        long left = amount;
        for (int i = 0; i < 6; i++) {
            gets[i] = amount * points[i] * minutes[i] / total;
            rests[i] = amount * points[i] * minutes[i] - gets[i] * total;
            left -= gets[i];
        }
        for (; left > 0; left--) {
            int next = 0;
            for (int i = 1; i < 6; i++) if (rests[i] > rests[next]) next = i;
            gets[next]++;
            rests[next] = -1;
        }
        return (int) gets[person];
    }

    int keg(int ml, int heat) {
        if (ml < 1000 || ml > 100000 || heat < 0 || heat > 40) return BAD;
        int foam = settings[5];
        for (int degree = 5; degree <= heat; degree++) foam += settings[6];
        if (foam > 90) foam = 90;
        return ml * (100 - foam) / 50000;
    }

    int deal(int bottles, int price) {
        if (bottles < 1 || bottles > 24 || price < 0 || price > 100000) return BAD;
        if (deals.size() == 5) return FULL;
        deals.add(new int[] {bottles, price});
        return deals.size();
    }

    /** Best buys as rows (price, bottles, less of each DEAL): the least row wins, and rows add up. */
    int buy(int n, int what) {
        if (n < 1 || n > 120 || what < 0 || what > 1 + deals.size()) return BAD;
        if (deals.isEmpty()) return NO;
        int[][] best = new int[n + 1][];
        best[0] = new int[2 + deals.size()];
        for (int i = 1; i <= n; i++) {
            for (int d = 0; d < deals.size(); d++) {
                int[] row = best[Math.max(0, i - deals.get(d)[0])].clone();
                row[0] += deals.get(d)[1];
                row[1] += deals.get(d)[0];
                row[2 + d]--;
                if (best[i] == null || Arrays.compare(row, best[i]) < 0) best[i] = row;
            }
        }
        return what < 2 ? best[n][what] : -best[n][what];
    }

    int count(int what) {
        switch (what) {
            case 0: return kinds.size();
            case 1: return recipePrices.size();
            case 2: return now;
            case 3: return undoable.size();
            case 4: return priceRules.size();
            case 5: return deals.size();
            case 6: return foretold.size();
            default: return BAD;
        }
    }

    private boolean noBar(int bar) {
        return bar != 0 && bar != 1;
    }

    private boolean noKind(int kind) {
        return kind < 0 || kind >= kinds.size();
    }

    private boolean noRecipe(int recipe) {
        return recipe < 0 || recipe >= recipePrices.size();
    }

    private Event happen(int what, int bar, int thing, int n) {
        Event e = new Event();
        e.what = what;
        e.night = now;
        e.bar = bar;
        e.thing = thing;
        e.n = n;
        e.partsThen = what == 3 ? parts[thing].clone() : null;
        events.add(e);
        undoable.add(e);
        if (undoable.size() > 40) undoable.remove(0);
        return e;
    }

    private int store(int kind) {
        int bottles = 0;
        for (Event e : events) {
            if (e.undone || e.thing != kind) continue;
            if (e.what == 0) bottles += e.n;
            if (e.what == 1) bottles -= e.n;
        }
        return bottles;
    }

    private int book(int bar, int kind) {
        int ml = 0;
        for (Event e : events) {
            if (e.undone) continue;
            if (e.what == 3 && e.bar == bar) ml -= e.n * e.partsThen[kind] * 6;
            if (e.what == 3 || e.thing != kind) continue;
            if (e.what == 1 && e.bar == bar) ml += e.n * kinds.get(kind)[1];
            if (e.what == 2) ml += e.bar == bar ? -e.n : e.n;
            if (e.what > 3 && e.bar == bar) ml -= e.n;
        }
        return ml;
    }

    private Event weighing(int night, int bar, int kind) {
        for (Event e : events) {
            if (e.what == 6 && !e.undone && e.night == night && e.bar == bar && e.thing == kind) return e;
        }
        return null;
    }

    private int drinks(int night, int bar, int kind) {
        int sum = 0;
        for (Event e : events) {
            boolean isSale = e.what == 3 && !e.undone && e.night == night && e.bar == bar;
            if (isSale && e.partsThen[kind] > 0) sum += e.n;
        }
        return sum;
    }

    private int spanAsNow(int night, int bar, int kind) {
        int dense = kinds.get(kind)[2], span = 0;
        while (span * dense < settings[0] * 100) span++;
        return span + settings[1] * drinks(night, bar, kind);
    }

    private static boolean isTold(Event weighing) {
        return weighing != null && (weighing.n > weighing.span || -weighing.n > weighing.span);
    }

    private List<Event> counted(int keeper, int kind) {
        List<Event> counted = new ArrayList<>();
        for (Event e : events) {
            if (e.what != 6 || e.undone || e.thing != kind || keepers[e.night][e.bar] != keeper) continue;
            if (drinks(e.night, e.bar, kind) > 0) counted.add(e);
        }
        return counted;
    }

    private int cost(int q) {
        int cost = 0;
        for (int[] f : foretold) cost += f[1] * (q > f[0] ? settings[2] * (q - f[0]) : settings[3] * (f[0] - q));
        return cost;
    }

    private int needs(int recipe) {
        int set = 0;
        for (int k = 0; k < 10; k++) if (parts[recipe][k] > 0) set |= 1 << k;
        return set;
    }

    private static int rank(int set) {
        return Integer.bitCount(set) * 1024 + set;
    }
}
