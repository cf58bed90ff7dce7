/** Promises 15 to 20: has, all, gap, over, leans, takings. */
public final class BooksTest {
    private static final int LEAST = Integer.MIN_VALUE, MOST = Integer.MAX_VALUE;
    private static final int FAR_BAD = -1000000000, FAR_NONE = -1000000004;

    public static void main(String[] args) {
        promise15Has();
        promise16All();
        promise17Gap();
        promise17SpanWhenWeighedAndNow();
        promise17SpanRoundedUp();
        promise17Told();
        promise18OverFromThree();
        promise18OverSigns();
        promise18OverOfWhom();
        promise18OverOfAllNights();
        promise18OverBad();
        promise19Leans();
        promise20Takings();
        Due.end();
    }

    /** KIND 0: no TARE, 1000 ml, 100 grams (so grams are ml); RECIPE 0: 1 PART for 100. */
    private static BarMeasure plain() {
        BarMeasure x = new BarMeasure();
        x.kind(0, 1000, 100);
        x.recipe(100);
        x.part(0, 0, 1);
        return x;
    }

    /** A NIGHT's end at a BAR with so many DRINKS and this GAP. */
    private static void close(BarMeasure x, int bar, int drinks, int gap) {
        if (drinks > 0) {
            x.sell(bar, 0, drinks, 0, 0);
        }
        x.receive(0, 1);
        x.issue(bar, 0, 1);
        int found = x.has(bar, 0) - gap;
        Due.is("close: THE GAP", x.weigh(bar, 0, found / 1000, found % 1000), gap);
    }

    private static void promise15Has() {
        BarMeasure x = plain();
        x.receive(0, 8);
        x.issue(0, 0, 2);
        x.issue(1, 0, 1);
        x.lose(1, 0, 0, 1500);
        Due.is("has: BAR 0", x.has(0, 0), 2000);
        Due.is("has: BAR 1", x.has(1, 0), -500);
        Due.is("has: THE STORE", x.has(2, 0), 5);
        for (int far : new int[] {-1, 3, LEAST, MOST}) {
            Due.is("has: bar " + far, x.has(far, 0), FAR_BAD);
        }
        for (int far : new int[] {-1, 1, LEAST, MOST}) {
            Due.is("has: KIND " + far, x.has(0, far), FAR_BAD);
            Due.is("has: KIND in THE STORE " + far, x.has(2, far), FAR_BAD);
        }
    }

    private static void promise16All() {
        BarMeasure x = plain();
        x.receive(0, 8);
        x.issue(0, 0, 3);
        x.issue(1, 0, 3);
        x.sell(0, 0, 4, 0, 0);
        x.sell(1, 0, 5, 0, 0);
        x.lose(0, 0, 0, 7);
        x.lose(1, 0, 0, 8);
        x.lose(0, 0, 1, 9);
        x.lose(1, 0, 1, 20);
        x.weigh(0, 0, 2, 940);
        x.weigh(1, 0, 3, 0);
        Due.is("all: SOLD", x.all(0, 0), 54);
        Due.is("all: SPILT", x.all(0, 1), 15);
        Due.is("all: GIVEN", x.all(0, 2), 29);
        Due.is("all: by GAPS", x.all(0, 3), 20 - 58);
        Due.is("all: RECEIVED", x.all(0, 4), 8);
        x.night();
        x.receive(0, 2);
        x.sell(0, 0, 1, 0, 0);
        Due.is("all: SOLD over NIGHTS", x.all(0, 0), 60);
        Due.is("all: RECEIVED over NIGHTS", x.all(0, 4), 10);
        for (int far : new int[] {-1, 1, LEAST, MOST}) {
            Due.is("all: KIND " + far, x.all(far, 0), FAR_BAD);
        }
        for (int far : new int[] {-1, 5, LEAST, MOST}) {
            Due.is("all: what " + far, x.all(0, far), FAR_BAD);
        }
        x.kind(0, 500, 50);
        for (int what = 0; what <= 4; what++) {
            Due.is("all: of another KIND", x.all(1, what), 0);
        }
    }

    private static void promise17Gap() {
        BarMeasure x = plain();
        x.keeper(1, 2);
        Due.is("gap: not WEIGHED", x.gap(0, 0, 0, 0), FAR_NONE);
        Due.is("gap: SPAN of SCALE alone", x.gap(0, 0, 0, 1), 2);
        Due.is("gap: not TOLD", x.gap(0, 0, 0, 2), 0);
        Due.is("gap: no DRINKS", x.gap(0, 0, 0, 3), 0);
        Due.is("gap: the KEEPER", x.gap(0, 0, 0, 4), 0);
        Due.is("gap: the KEEPER of BAR 1", x.gap(0, 1, 0, 4), 2);
        close(x, 1, 6, -9);
        Due.is("gap: THE GAP", x.gap(0, 1, 0, 0), -9);
        Due.is("gap: the other BAR", x.gap(0, 0, 0, 0), FAR_NONE);
        Due.is("gap: SPAN", x.gap(0, 1, 0, 1), 8);
        Due.is("gap: TOLD", x.gap(0, 1, 0, 2), 1);
        Due.is("gap: DRINKS", x.gap(0, 1, 0, 3), 6);
        x.sell(1, 0, 4, 0, 0);
        Due.is("gap: DRINKS behind the weighing", x.gap(0, 1, 0, 3), 10);
        Due.is("gap: SPAN as it was", x.gap(0, 1, 0, 1), 8);
        for (int far : new int[] {-1, 1, LEAST, MOST}) {
            Due.is("gap: NIGHT " + far, x.gap(far, 0, 0, 0), FAR_BAD);
            Due.is("gap: KIND " + far, x.gap(0, 0, far, 0), FAR_BAD);
        }
        for (int far : new int[] {-1, 2, LEAST, MOST}) {
            Due.is("gap: bar " + far, x.gap(0, far, 0, 0), FAR_BAD);
        }
        for (int far : new int[] {-1, 5, LEAST, MOST}) {
            Due.is("gap: what " + far, x.gap(0, 0, 0, far), FAR_BAD);
        }
        x.night();
        Due.is("gap: of the NIGHT that ended", x.gap(0, 1, 0, 0), -9);
        Due.is("gap: of this NIGHT", x.gap(1, 1, 0, 0), FAR_NONE);
        Due.is("gap: of the NIGHT to come", x.gap(2, 1, 0, 0), FAR_BAD);
        x.kind(5, 500, 50);
        Due.is("gap: a KIND that came later", x.gap(0, 1, 1, 3), 0);
        Due.is("gap: its SPAN, twice as dense", x.gap(0, 1, 1, 1), 4);
    }

    private static void promise17SpanWhenWeighedAndNow() {
        BarMeasure x = new BarMeasure();
        x.kind(0, 1000, 94);
        x.recipe(1);
        x.part(0, 0, 2);
        x.sell(0, 0, 5, 0, 0);
        Due.is("span: 200 by 94 rounded up, and 5", x.gap(0, 0, 0, 1), 8);
        x.rule(0, 47);
        Due.is("span: 4700 by 94 is 50", x.gap(0, 0, 0, 1), 55);
        x.rule(1, 20);
        Due.is("span: POUR 20", x.gap(0, 0, 0, 1), 150);
        x.weigh(0, 0, 0, 0);
        x.rule(0, 0);
        x.rule(1, 0);
        Due.is("span: as WEIGHED", x.gap(0, 0, 0, 1), 150);
        Due.is("span: of the other BAR as now", x.gap(0, 1, 0, 1), 0);
        x.sell(1, 0, 3, 0, 0);
        x.night();
        x.rule(0, 1);
        x.rule(1, 7);
        Due.is("span: of a NIGHT that ended, not WEIGHED: as now", x.gap(0, 1, 0, 1), 23);
        Due.is("span: of a NIGHT that ended, WEIGHED", x.gap(0, 0, 0, 1), 150);
        x.weigh(0, 0, 0, 0);
        Due.is("span: WEIGHED with no DRINKS", x.gap(1, 0, 0, 1), 2);
        x.sell(0, 0, 3, 0, 0);
        Due.is("span: DRINKS behind don't count", x.gap(1, 0, 0, 1), 2);
        x.undo();
        x.undo();
        x.rule(0, 50);
        Due.is("span: UNDONE, as now", x.gap(1, 0, 0, 1), 54);
    }

    private static void promise17SpanRoundedUp() {
        for (int dense = 50; dense <= 150; dense++) {
            BarMeasure x = new BarMeasure();
            x.kind(0, 1000, dense);
            for (int scale = 0; scale <= 50; scale++) {
                x.rule(0, scale);
                int due = scale * 100 / dense + (scale * 100 % dense == 0 ? 0 : 1);
                Due.is("span: SCALE " + scale + ", DENSE " + dense, x.gap(0, 0, 0, 1), due);
            }
        }
    }

    private static void promise17Told() {
        int[] gaps = {-3, -2, 0, 2, 3};
        int[] told = {1, 0, 0, 0, 1};
        for (int i = 0; i < gaps.length; i++) {
            BarMeasure x = plain();
            close(x, 0, 0, gaps[i]);
            Due.is("told: " + gaps[i] + " by SPAN 2", x.gap(0, 0, 0, 2), told[i]);
        }
    }

    private static void promise18OverFromThree() {
        BarMeasure x = plain();
        close(x, 0, 10, 20);
        Due.is("over: 1 is too few", x.over(0, 0, 0), FAR_NONE);
        x.night();
        close(x, 0, 20, 50);
        Due.is("over: 2 are too few", x.over(0, 0, 0), FAR_NONE);
        Due.is("over: 2 are too few, below", x.over(0, 0, 1), FAR_NONE);
        x.night();
        close(x, 0, 0, 77);
        Due.is("over: without DRINKS it does not count", x.over(0, 0, 0), FAR_NONE);
        x.night();
        x.sell(0, 0, 9, 0, 0);
        Due.is("over: not WEIGHED it does not count", x.over(0, 0, 0), FAR_NONE);
        x.night();
        close(x, 1, 5, -6);
        Due.is("over: both BARS count: (200 + 1000 - 30) by 525", x.over(0, 0, 0), 78);
        Due.is("over: below, in lowest terms", x.over(0, 0, 1), 35);
        x.undo();
        Due.is("over: UNDONE", x.over(0, 0, 0), FAR_NONE);
    }

    private static void promise18OverSigns() {
        BarMeasure x = plain();
        close(x, 0, 1, -3);
        close(x, 1, 1, -3);
        x.night();
        close(x, 0, 1, -3);
        Due.is("over: below 0", x.over(0, 0, 0), -3);
        Due.is("over: below is above 0", x.over(0, 0, 1), 1);
        close(x, 1, 3, 3);
        Due.is("over: 0 above", x.over(0, 0, 0), 0);
        Due.is("over: 0 by 1", x.over(0, 0, 1), 1);
        x.sell(0, 0, 1, 0, 0);
        Due.is("over: DRINKS behind the weighing count: -3 by 15", x.over(0, 0, 0), -1);
        Due.is("over: DRINKS behind the weighing count", x.over(0, 0, 1), 5);
    }

    private static void promise18OverOfWhom() {
        BarMeasure x = plain();
        x.keeper(1, 1);
        for (int i = 0; i < 3; i++) {
            close(x, 0, 2, 5);
            close(x, 1, 4, 4);
            x.night();
        }
        Due.is("over: KEEPER 0", x.over(0, 0, 0), 5);
        Due.is("over: KEEPER 0 below", x.over(0, 0, 1), 2);
        Due.is("over: KEEPER 1", x.over(1, 0, 0), 1);
        Due.is("over: KEEPER 2", x.over(2, 0, 0), FAR_NONE);
        close(x, 0, 6, 1);
        Due.is("over: 36 by 48", x.over(0, 0, 0), 3);
        Due.is("over: told behind the weighing", x.keeper(0, 1), 0);
        Due.is("over: it counts for all of that NIGHT, not for 0", x.over(0, 0, 0), 5);
        Due.is("over: but for 1: 54 by 84", x.over(1, 0, 0), 9);
        Due.is("over: but for 1, below", x.over(1, 0, 1), 14);
    }

    private static void promise18OverOfAllNights() {
        BarMeasure x = plain();
        for (int night = 0; night < 20; night++) {
            close(x, 0, 1, night);
            close(x, 1, 2, 3);
            x.night();
        }
        Due.is("over: (190 + 120) by 100", x.over(0, 0, 0), 31);
        Due.is("over: (190 + 120) by 100, below", x.over(0, 0, 1), 10);
        Due.is("over: of 20 NIGHTS above 3", x.leans(0, 0), 16);
    }

    private static void promise18OverBad() {
        BarMeasure x = plain();
        for (int far : new int[] {-1, 3, LEAST, MOST}) {
            Due.is("over: KEEPER " + far, x.over(far, 0, 0), FAR_BAD);
        }
        for (int far : new int[] {-1, 1, LEAST, MOST}) {
            Due.is("over: KIND " + far, x.over(0, far, 0), FAR_BAD);
        }
        for (int far : new int[] {-1, 2, LEAST, MOST}) {
            Due.is("over: part " + far, x.over(0, 0, far), FAR_BAD);
        }
        Due.is("over: none", x.over(2, 0, 1), FAR_NONE);
    }

    private static void promise19Leans() {
        BarMeasure x = plain();
        Due.is("leans: none", x.leans(0, 0), 0);
        close(x, 0, 3, 6);
        Due.is("leans: TOLD, one alone", x.leans(0, 0), 1);
        close(x, 1, 3, 5);
        Due.is("leans: not TOLD", x.leans(0, 0), 1);
        x.night();
        close(x, 0, 0, 99);
        Due.is("leans: TOLD without DRINKS", x.leans(0, 0), 1);
        x.keeper(1, 2);
        close(x, 1, 1, -4);
        Due.is("leans: another KEEPER's", x.leans(0, 0), 1);
        Due.is("leans: that one's", x.leans(2, 0), 1);
        x.undo();
        Due.is("leans: UNDONE", x.leans(2, 0), 0);
        x.kind(0, 500, 100);
        Due.is("leans: another KIND", x.leans(0, 1), 0);
        for (int far : new int[] {-1, 3, LEAST, MOST}) {
            Due.is("leans: KEEPER " + far, x.leans(far, 0), -1);
        }
        for (int far : new int[] {-1, 2, LEAST, MOST}) {
            Due.is("leans: KIND " + far, x.leans(0, far), -1);
        }
    }

    private static void promise20Takings() {
        BarMeasure x = plain();
        x.sell(0, 0, 3, 0, 0);
        x.night();
        x.sell(0, 0, 2, 0, 0);
        x.sell(1, 0, 7, 0, 0);
        Due.is("takings: BAR 0 over NIGHTS", x.takings(0), 500);
        Due.is("takings: BAR 1", x.takings(1), 700);
        x.rule(4, 150);
        x.undo();
        Due.is("takings: UNDONE by PRICE then", x.takings(1), 0);
        for (int far : new int[] {-1, 2, LEAST, MOST}) {
            Due.is("takings: bar " + far, x.takings(far), -1);
        }
    }
}
