/** Two bars and a store by the measure: ../shared/DOC.md says what each call promises. */
public final class BarMeasure {
    public static final int BAD = -1, NO = -2, FULL = -3, NONE = -4;

    // A book, a gap or a fraction may lie below 0: refusals there are numbers far below.
    private static final int FAR_BAD = -1000000000, FAR_NO = -1000000002, FAR_NONE = -1000000004;

    private static final int BARS = 2, MOST_KINDS = 10, MOST_RECIPES = 12, MOST_NIGHTS = 20, MOST_ACTS = 40;
    private static final int MOST_FORETOLD = 8, MOST_PRICE_RULES = 12, PEOPLE = 6, MOST_DEALS = 5;
    private static final int MOST_STORED = 1000, MOST_PARTS = 20, ML_OF_PART = 6, LEAST_FOR_OVER = 3;
    private static final int LAST_DAY = 6, LAST_MINUTE = 1439, MOST_PRESSED = 200, MOST_BOUGHT = 120;

    // The acts, by the numbers that undo answers.
    private static final int RECEIVED = 0, ISSUED = 1, LENT = 2, SOLD = 3, SPILT = 4, GIVEN = 5, WEIGHED = 6;

    // The settings, by the numbers that rule takes.
    private static final int SCALE = 0, POUR = 1, WASTE = 2, LACK = 3, FLOOR = 4, FOAM_0 = 5, FOAM_1 = 6;
    private static final int[] MOST_OF_SETTING = {50, 20, 100, 100, 10000, 50, 10};
    private static final int[] SETTING_AT_FIRST = {2, 1, 1, 1, 0, 5, 2};

    private final Kind[] kinds = new Kind[MOST_KINDS];
    private int kindCount = 0;
    private final Recipe[] recipes = new Recipe[MOST_RECIPES];
    private int recipeCount = 0;
    private final int[] settings = SETTING_AT_FIRST.clone();
    private final Sheet[] sheets = new Sheet[MOST_NIGHTS * BARS];
    private int tonight = 0;
    private final ActLog acts = new ActLog();
    private final int[] takenIn = new int[BARS];
    private final Forecast forecast = new Forecast();
    private final PriceRule[] priceRules = new PriceRule[MOST_PRICE_RULES];
    private int priceRuleCount = 0;
    private final TipJar tipJar = new TipJar();
    private final DealBook deals = new DealBook();

    /** All rows are made here, once, so that no row is ever null and no call makes any. */
    public BarMeasure() {
        for (int i = 0; i < kinds.length; i++) {
            kinds[i] = new Kind();
        }
        for (int i = 0; i < recipes.length; i++) {
            recipes[i] = new Recipe();
        }
        for (int i = 0; i < sheets.length; i++) {
            sheets[i] = new Sheet();
        }
        for (int i = 0; i < priceRules.length; i++) {
            priceRules[i] = new PriceRule();
        }
    }

    // ---- kinds, recipes

    public int kind(int tare, int size, int dense) {
        if (!isIn(tare, 0, 2000) || !isIn(size, 100, 2000) || !isIn(dense, 50, 150)) {
            return BAD;
        }
        if (kindCount >= MOST_KINDS) {
            return FULL;
        }
        Kind made = kinds[kindCount];
        made.tare = tare;
        made.size = size;
        made.dense = dense;
        kindCount++;
        return kindCount - 1;
    }

    public int recipe(int price) {
        if (!isIn(price, 0, 10000)) {
            return BAD;
        }
        if (recipeCount >= MOST_RECIPES) {
            return FULL;
        }
        recipes[recipeCount].listPrice = price;
        recipeCount++;
        return recipeCount - 1;
    }

    public int part(int recipe, int kind, int parts) {
        if (!isRecipe(recipe) || !isKind(kind) || !isIn(parts, 0, MOST_PARTS)) {
            return BAD;
        }
        if (recipes[recipe].lastSold == tonight) {
            return NO;
        }
        return recipes[recipe].putParts(kind, parts);
    }

    public int rule(int what, int v) {
        if (!isIn(what, 0, settings.length - 1) || !isIn(v, 0, MOST_OF_SETTING[what])) {
            return BAD;
        }
        int before = settings[what];
        settings[what] = v;
        return before;
    }

    // ---- acts

    public int receive(int kind, int n) {
        if (!isKind(kind) || !isIn(n, 1, 100)) {
            return BAD;
        }
        if (kinds[kind].stored + n > MOST_STORED) {
            return FULL;
        }
        carryOut(RECEIVED, 0, kind, n, 0);
        return kinds[kind].stored;
    }

    public int issue(int bar, int kind, int n) {
        if (!isBar(bar) || !isKind(kind) || !isIn(n, 1, 100)) {
            return FAR_BAD;
        }
        if (kinds[kind].stored < n) {
            return FAR_NO;
        }
        carryOut(ISSUED, bar, kind, n, 0);
        return kinds[kind].books[bar];
    }

    public int lend(int bar, int kind, int ml) {
        if (!isBar(bar) || !isKind(kind) || !isIn(ml, 1, 10000)) {
            return FAR_BAD;
        }
        if (kinds[kind].books[bar] < ml) {
            return FAR_NO;
        }
        carryOut(LENT, bar, kind, ml, 0);
        return kinds[kind].books[1 - bar];
    }

    public int sell(int bar, int recipe, int n, int day, int minute) {
        if (!isBar(bar) || !isRecipe(recipe) || !isIn(n, 1, 100) || !isTime(day, minute)) {
            return BAD;
        }
        int cost = n * priceAt(recipe, day, minute);
        recipes[recipe].lastSold = tonight;
        carryOut(SOLD, bar, recipe, n, cost);
        return cost;
    }

    public int lose(int bar, int kind, int what, int ml) {
        if (!isBar(bar) || !isKind(kind) || !isIn(what, 0, 1) || !isIn(ml, 1, 10000)) {
            return FAR_BAD;
        }
        carryOut(what == 0 ? SPILT : GIVEN, bar, kind, ml, 0);
        return kinds[kind].books[bar];
    }

    public int weigh(int bar, int kind, int bottles, int grams) {
        if (!isBar(bar) || !isKind(kind) || !isIn(bottles, 0, 50) || !isIn(grams, 0, 5000)) {
            return FAR_BAD;
        }
        Sheet sheet = sheetOf(tonight, bar);
        if (sheet.weighed[kind]) {
            return FAR_NO;
        }
        int missing = kinds[kind].books[bar] - kinds[kind].found(bottles, grams);
        sheet.spans[kind] = spanNow(sheet, kind);
        carryOut(WEIGHED, bar, kind, missing, 0);
        return missing;
    }

    public int undo() {
        if (acts.kept == 0) {
            return NO;
        }
        Act latest = acts.takeLatest();
        apply(latest, -1);
        return latest.what;
    }

    public int keeper(int bar, int keeper) {
        if (!isBar(bar) || !isKeeper(keeper)) {
            return BAD;
        }
        Sheet sheet = sheetOf(tonight, bar);
        int before = sheet.keptBy;
        sheet.keptBy = keeper;
        return before;
    }

    public int night() {
        if (tonight >= MOST_NIGHTS - 1) {
            return FULL;
        }
        for (int bar = 0; bar < BARS; bar++) {
            sheetOf(tonight + 1, bar).keptBy = sheetOf(tonight, bar).keptBy;
        }
        tonight++;
        acts.kept = 0;
        return tonight;
    }

    // ---- books

    public int has(int bar, int kind) {
        if (!isIn(bar, 0, BARS) || !isKind(kind)) {
            return FAR_BAD;
        }
        return bar == BARS ? kinds[kind].stored : kinds[kind].books[bar];
    }

    public int all(int kind, int what) {
        if (!isKind(kind) || !isIn(what, 0, 4)) {
            return FAR_BAD;
        }
        return what == 4 ? kinds[kind].received : kinds[kind].gone[what];
    }

    public int gap(int night, int bar, int kind, int what) {
        if (!isIn(night, 0, tonight) || !isBar(bar) || !isKind(kind) || !isIn(what, 0, 4)) {
            return FAR_BAD;
        }
        Sheet sheet = sheetOf(night, bar);
        switch (what) {
            case 0:
                return sheet.weighed[kind] ? sheet.gaps[kind] : FAR_NONE;
            case 1:
                return sheet.weighed[kind] ? sheet.spans[kind] : spanNow(sheet, kind);
            case 2:
                return sheet.isTold(kind) ? 1 : 0;
            case 3:
                return sheet.drinks[kind];
            default:
                return sheet.keptBy;
        }
    }

    public long over(int keeper, int kind, int part) {
        if (!isKeeper(keeper) || !isKind(kind) || !isIn(part, 0, 1)) {
            return FAR_BAD;
        }
        int pairs = 0;
        long products = 0;
        long squares = 0;
        for (int i = 0; i < sheetsSoFar(); i++) {
            if (sheets[i].judges(keeper, kind)) {
                long drinks = sheets[i].drinks[kind];
                pairs++;
                products += drinks * sheets[i].gaps[kind];
                squares += drinks * drinks;
            }
        }
        if (pairs < LEAST_FOR_OVER) {
            return FAR_NONE;
        }
        return (part == 0 ? products : squares) / commonDivisor(Math.abs(products), squares);
    }

    public int leans(int keeper, int kind) {
        if (!isKeeper(keeper) || !isKind(kind)) {
            return BAD;
        }
        int told = 0;
        for (int i = 0; i < sheetsSoFar(); i++) {
            if (sheets[i].judges(keeper, kind) && sheets[i].isTold(kind)) {
                told++;
            }
        }
        return told;
    }

    public int takings(int bar) {
        return isBar(bar) ? takenIn[bar] : BAD;
    }

    // ---- plans

    public int foretell(int amount, int weight) {
        if (!isIn(amount, 0, MOST_PRESSED) || !isIn(weight, 1, 100)) {
            return BAD;
        }
        if (forecast.told >= MOST_FORETOLD) {
            return FULL;
        }
        forecast.add(amount, weight);
        return forecast.told;
    }

    public int forget() {
        int told = forecast.told;
        forecast.told = 0;
        return told;
    }

    /** The document puts NO ahead of BAD here, alone of all calls. */
    public int press(int q) {
        if (forecast.told == 0) {
            return NO;
        }
        if (!isIn(q, -1, MOST_PRESSED)) {
            return BAD;
        }
        int waste = settings[WASTE];
        int lack = settings[LACK];
        return q == -1 ? forecast.par(waste, lack) : forecast.costOf(q, waste, lack);
    }

    public int makes(int kinds) {
        return isIn(kinds, 0, allKinds()) ? madeBy(kinds) : BAD;
    }

    public int fewest(int m) {
        if (!isIn(m, 1, MOST_RECIPES)) {
            return BAD;
        }
        int best = NONE;
        for (int set = 0; set <= allKinds(); set++) {
            boolean isFewer = best == NONE || Integer.bitCount(set) < Integer.bitCount(best);
            if (isFewer && madeBy(set) >= m) {
                best = set;
            }
        }
        return best;
    }

    public int most(int k) {
        if (!isIn(k, 0, kindCount)) {
            return BAD;
        }
        int best = 0;
        int mostMade = -1;
        for (int set = 0; set <= allKinds(); set++) {
            int made = Integer.bitCount(set) == k ? madeBy(set) : -1;
            if (made > mostMade) {
                best = set;
                mostMade = made;
            }
        }
        return best;
    }

    // ---- money

    public int priceRule(int days, int from, int to, int hundredths) {
        boolean isSpan = isIn(from, 0, LAST_MINUTE) && isIn(to, 0, LAST_MINUTE);
        if (!isIn(days, 0, 127) || !isSpan || !isIn(hundredths, 0, 200)) {
            return BAD;
        }
        if (priceRuleCount >= MOST_PRICE_RULES) {
            return FULL;
        }
        PriceRule told = priceRules[priceRuleCount];
        told.days = days;
        told.from = from;
        told.to = to;
        told.hundredths = hundredths;
        priceRuleCount++;
        return priceRuleCount;
    }

    public int price(int recipe, int day, int minute) {
        return isRecipe(recipe) && isTime(day, minute) ? priceAt(recipe, day, minute) : BAD;
    }

    public int person(int person, int points, int minutes) {
        if (!isIn(person, 0, PEOPLE - 1) || !isIn(points, 0, 10) || !isIn(minutes, 0, 1440)) {
            return BAD;
        }
        tipJar.weights[person] = points * minutes;
        return 0;
    }

    public int tips(int amount, int person) {
        if (!isIn(amount, 0, 1000000) || !isIn(person, 0, PEOPLE - 1)) {
            return BAD;
        }
        return tipJar.shareOf(person, amount);
    }

    public int keg(int ml, int heat) {
        if (!isIn(ml, 1000, 100000) || !isIn(heat, 0, 40)) {
            return BAD;
        }
        int foam = Math.min(90, settings[FOAM_0] + settings[FOAM_1] * Math.max(0, heat - 4));
        return ml * (100 - foam) / 50000;
    }

    public int deal(int bottles, int price) {
        if (!isIn(bottles, 1, DealBook.MOST_BOTTLES) || !isIn(price, 0, 100000)) {
            return BAD;
        }
        if (deals.told >= MOST_DEALS) {
            return FULL;
        }
        deals.add(bottles, price);
        return deals.told;
    }

    public int buy(int n, int what) {
        if (!isIn(n, 1, MOST_BOUGHT) || !isIn(what, 0, 1 + deals.told)) {
            return BAD;
        }
        if (deals.told == 0) {
            return NO;
        }
        deals.weighUp();
        int bottles = deals.bestBottles(n);
        switch (what) {
            case 0:
                return deals.leastFor(bottles);
            case 1:
                return bottles;
            default:
                return deals.timesOf(what - 2, bottles);
        }
    }

    public int count(int what) {
        switch (what) {
            case 0:
                return kindCount;
            case 1:
                return recipeCount;
            case 2:
                return tonight;
            case 3:
                return acts.kept;
            case 4:
                return priceRuleCount;
            case 5:
                return deals.told;
            case 6:
                return forecast.told;
            default:
                return BAD;
        }
    }

    // ---- what numbers stand for

    private static boolean isIn(int v, int least, int most) {
        return least <= v && v <= most;
    }

    private static boolean isBar(int bar) {
        return isIn(bar, 0, BARS - 1);
    }

    private static boolean isKeeper(int keeper) {
        return isIn(keeper, 0, 2);
    }

    private static boolean isTime(int day, int minute) {
        return isIn(day, 0, LAST_DAY) && isIn(minute, 0, LAST_MINUTE);
    }

    private boolean isKind(int kind) {
        return isIn(kind, 0, kindCount - 1);
    }

    private boolean isRecipe(int recipe) {
        return isIn(recipe, 0, recipeCount - 1);
    }

    private int allKinds() {
        return (1 << kindCount) - 1;
    }

    private Sheet sheetOf(int night, int bar) {
        return sheets[night * BARS + bar];
    }

    private int sheetsSoFar() {
        return (tonight + 1) * BARS;
    }

    // ---- what several calls need

    private void carryOut(int what, int bar, int thing, int amount, int cost) {
        Act act = acts.nextRow();
        act.what = what;
        act.bar = bar;
        act.thing = thing;
        act.amount = amount;
        act.cost = cost;
        apply(act, 1);
    }

    /** One place for doing (sign 1) and undoing (sign -1), so that the two can't drift apart. */
    private void apply(Act act, int sign) {
        Sheet sheet = sheetOf(tonight, act.bar);
        if (act.what == SOLD) {
            applySale(act, sheet, sign);
            return;
        }
        if (act.what == WEIGHED) {
            sheet.weighed[act.thing] = sign > 0;
            sheet.gaps[act.thing] = act.amount;
        }
        kinds[act.thing].move(act.what, act.bar, sign * act.amount);
    }

    /** A RECIPE that was SOLD keeps its PARTS all NIGHT: undoing finds what selling found. */
    private void applySale(Act act, Sheet sheet, int sign) {
        Recipe recipe = recipes[act.thing];
        for (int k = 0; k < kindCount; k++) {
            if (recipe.parts[k] > 0) {
                kinds[k].move(SOLD, act.bar, sign * act.amount * recipe.parts[k] * ML_OF_PART);
                sheet.drinks[k] += sign * act.amount;
            }
        }
        takenIn[act.bar] += sign * act.cost;
    }

    private int spanNow(Sheet sheet, int kind) {
        return kinds[kind].mlOfScale(settings[SCALE]) + settings[POUR] * sheet.drinks[kind];
    }

    private int priceAt(int recipe, int day, int minute) {
        int listPrice = recipes[recipe].listPrice;
        for (int i = priceRuleCount - 1; i >= 0; i--) {
            if (priceRules[i].holds(day, minute)) {
                return Math.max(settings[FLOOR], listPrice * priceRules[i].hundredths / 100);
            }
        }
        return Math.max(settings[FLOOR], listPrice);
    }

    private int madeBy(int set) {
        int made = 0;
        for (int i = 0; i < recipeCount; i++) {
            if (recipes[i].canBeMadeBy(set)) {
                made++;
            }
        }
        return made;
    }

    /** Of two numbers not below 0; Euclid's steps on longs are fewer than 100. */
    private static long commonDivisor(long a, long b) {
        for (int step = 0; step < 100 && b != 0; step++) {
            long rest = a % b;
            a = b;
            b = rest;
        }
        return a == 0 ? 1 : a;
    }

    private static final class Kind {
        int tare = 0;
        int size = 0;
        int dense = 1;
        int stored = 0;
        int received = 0;
        final int[] books = new int[BARS];
        /** Ml SOLD, SPILT, GIVEN and lost by GAPS: in the order of the acts from SOLD on. */
        final int[] gone = new int[4];

        int found(int bottles, int grams) {
            return size * bottles + 100 * Math.max(0, grams - tare) / dense;
        }

        int mlOfScale(int scale) {
            return (100 * scale + dense - 1) / dense;
        }

        void move(int act, int bar, int amount) {
            switch (act) {
                case RECEIVED:
                    stored += amount;
                    received += amount;
                    break;
                case ISSUED:
                    stored -= amount;
                    books[bar] += amount * size;
                    break;
                case LENT:
                    books[bar] -= amount;
                    books[1 - bar] += amount;
                    break;
                default:
                    books[bar] -= amount;
                    gone[act - SOLD] += amount;
                    break;
            }
        }
    }

    private static final class Recipe {
        int listPrice = 0;
        int lastSold = -1;
        int needed = 0;
        final int[] parts = new int[MOST_KINDS];

        int putParts(int kind, int n) {
            int before = parts[kind];
            parts[kind] = n;
            needed = n > 0 ? needed | 1 << kind : needed & ~(1 << kind);
            return before;
        }

        boolean canBeMadeBy(int set) {
            return needed != 0 && (needed & ~set) == 0;
        }
    }

    /** One NIGHT at one BAR. */
    private static final class Sheet {
        int keptBy = 0;
        final int[] drinks = new int[MOST_KINDS];
        final boolean[] weighed = new boolean[MOST_KINDS];
        final int[] gaps = new int[MOST_KINDS];
        final int[] spans = new int[MOST_KINDS];

        boolean isTold(int kind) {
            return weighed[kind] && Math.abs(gaps[kind]) > spans[kind];
        }

        boolean judges(int keeper, int kind) {
            return keptBy == keeper && weighed[kind] && drinks[kind] > 0;
        }
    }

    private static final class Act {
        int what = 0;
        int bar = 0;
        /** The number of a RECIPE if SOLD, else of a KIND. */
        int thing = 0;
        int amount = 0;
        int cost = 0;
    }

    /** A ring of rows: beyond 40 acts the new one takes the row of the oldest, which then stays. */
    private static final class ActLog {
        final Act[] rows = new Act[MOST_ACTS];
        int kept = 0;
        int next = 0;

        ActLog() {
            for (int i = 0; i < rows.length; i++) {
                rows[i] = new Act();
            }
        }

        Act nextRow() {
            Act row = rows[next];
            next = (next + 1) % MOST_ACTS;
            kept = Math.min(kept + 1, MOST_ACTS);
            return row;
        }

        Act takeLatest() {
            next = (next + MOST_ACTS - 1) % MOST_ACTS;
            kept--;
            return rows[next];
        }
    }

    private static final class Forecast {
        final int[] amounts = new int[MOST_FORETOLD];
        final int[] weights = new int[MOST_FORETOLD];
        int told = 0;

        void add(int amount, int weight) {
            amounts[told] = amount;
            weights[told] = weight;
            told++;
        }

        int costOf(int q, int waste, int lack) {
            int cost = 0;
            for (int i = 0; i < told; i++) {
                int above = Math.max(0, q - amounts[i]);
                int below = Math.max(0, amounts[i] - q);
                cost += weights[i] * (waste * above + lack * below);
            }
            return cost;
        }

        int par(int waste, int lack) {
            int best = 0;
            int least = costOf(0, waste, lack);
            for (int q = 1; q <= MOST_PRESSED; q++) {
                int cost = costOf(q, waste, lack);
                if (cost < least) {
                    best = q;
                    least = cost;
                }
            }
            return best;
        }
    }

    private static final class PriceRule {
        int days = 0;
        int from = 0;
        int to = 0;
        int hundredths = 0;

        boolean holds(int day, int minute) {
            if (from < to) {
                return hasDay(day) && from <= minute && minute < to;
            }
            int dayAhead = day == 0 ? LAST_DAY : day - 1;
            return hasDay(day) && from <= minute || hasDay(dayAhead) && minute < to;
        }

        boolean hasDay(int day) {
            return (days >> day & 1) == 1;
        }
    }

    private static final class TipJar {
        /** POINTS times minutes. */
        final int[] weights = new int[PEOPLE];

        int shareOf(int person, int amount) {
            long total = 0;
            for (int i = 0; i < PEOPLE; i++) {
                total += weights[i];
            }
            if (total == 0) {
                return NO;
            }
            long left = amount;
            for (int i = 0; i < PEOPLE; i++) {
                left -= cutShare(i, amount, total);
            }
            boolean getsOneMore = aheadOf(person, amount, total) < left;
            return (int) cutShare(person, amount, total) + (getsOneMore ? 1 : 0);
        }

        long cutShare(int person, int amount, long total) {
            return (long) amount * weights[person] / total;
        }

        long rest(int person, int amount, long total) {
            return (long) amount * weights[person] % total;
        }

        /** How many people come ahead of one when the cents that are left are given out. */
        int aheadOf(int person, int amount, long total) {
            long own = rest(person, amount, total);
            int ahead = 0;
            for (int i = 0; i < PEOPLE; i++) {
                long other = rest(i, amount, total);
                if (other > own || other == own && i < person) {
                    ahead++;
                }
            }
            return ahead;
        }
    }

    private static final class DealBook {
        static final int MOST_BOTTLES = 24;
        // Without any one DEAL of a best buy there are too few bottles: it has less than a DEAL too many.
        static final int REACH = MOST_BOUGHT + MOST_BOTTLES;
        static final int UNREACHED = 1000000000;

        final int[] bottles = new int[MOST_DEALS];
        final int[] prices = new int[MOST_DEALS];
        int told = 0;
        /** Row d: the least price of so many bottles exactly, by DEALS d and those behind it. */
        final int[][] least = new int[MOST_DEALS + 1][REACH];

        void add(int n, int price) {
            bottles[told] = n;
            prices[told] = price;
            told++;
        }

        void weighUp() {
            for (int b = 0; b < REACH; b++) {
                least[told][b] = b == 0 ? 0 : UNREACHED;
            }
            for (int d = told - 1; d >= 0; d--) {
                for (int b = 0; b < REACH; b++) {
                    least[d][b] = Math.min(least[d + 1][b], priceWithOneMore(d, b));
                }
            }
        }

        int priceWithOneMore(int d, int b) {
            return b < bottles[d] ? UNREACHED : least[d][b - bottles[d]] + prices[d];
        }

        int leastFor(int b) {
            return least[0][b];
        }

        int bestBottles(int n) {
            int best = n;
            for (int b = n + 1; b < REACH; b++) {
                if (least[0][b] < least[0][best]) {
                    best = b;
                }
            }
            return best;
        }

        int timesOf(int deal, int b) {
            int left = b;
            int times = 0;
            for (int d = 0; d <= deal; d++) {
                times = mostTimes(d, left);
                left -= times * bottles[d];
            }
            return times;
        }

        /** As often as the least price allows. */
        int mostTimes(int d, int b) {
            int left = b;
            int times = 0;
            while (times < REACH && left >= bottles[d] && priceWithOneMore(d, left) == least[d][left]) {
                left -= bottles[d];
                times++;
            }
            return times;
        }
    }
}
