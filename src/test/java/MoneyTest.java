/** Promises 27 to 34: priceRule, price, person, tips, keg, deal, buy, count. */
public final class MoneyTest {
    private static final int LEAST = Integer.MIN_VALUE, MOST = Integer.MAX_VALUE;

    public static void main(String[] args) {
        promise27PriceRule();
        promise28PriceOnDays();
        promise28PriceOverMidnight();
        promise28PriceLatestAndFloor();
        promise28PriceBad();
        promise29Person();
        promise30Tips();
        promise30TipsRests();
        promise30TipsBadAndNo();
        promise31Keg();
        promise32Deal();
        promise33Buy();
        promise33BuyTies();
        promise33BuyBadAndNo();
        promise34Count();
        Due.end();
    }

    private static void promise27PriceRule() {
        BarMeasure x = new BarMeasure();
        for (int far : new int[] {-1, 128, LEAST, MOST}) {
            Due.is("priceRule: days " + far, x.priceRule(far, 0, 0, 0), -1);
        }
        for (int far : new int[] {-1, 1440, LEAST, MOST}) {
            Due.is("priceRule: from " + far, x.priceRule(0, far, 0, 0), -1);
            Due.is("priceRule: to " + far, x.priceRule(0, 0, far, 0), -1);
        }
        for (int far : new int[] {-1, 201, LEAST, MOST}) {
            Due.is("priceRule: hundredths " + far, x.priceRule(0, 0, 0, far), -1);
        }
        Due.is("priceRule: none yet", x.count(4), 0);
        Due.is("priceRule: least numbers", x.priceRule(0, 0, 0, 0), 1);
        Due.is("priceRule: most numbers", x.priceRule(127, 1439, 1439, 200), 2);
        for (int i = 3; i <= 12; i++) {
            Due.is("priceRule: how many", x.priceRule(1, i, 2, 3), i);
        }
        Due.is("priceRule: FULL", x.priceRule(1, 1, 2, 3), -3);
        Due.is("priceRule: BAD ahead of FULL", x.priceRule(1, 1, 2, 201), -1);
        Due.is("priceRule: still 12", x.count(4), 12);
    }

    private static void promise28PriceOnDays() {
        BarMeasure x = new BarMeasure();
        x.recipe(999);
        Due.is("price: no RULES", x.price(0, 3, 700), 999);
        for (int day = 0; day <= 6; day++) {
            x.priceRule(1 << day, 600, 720, 10 + day);
        }
        for (int day = 0; day <= 6; day++) {
            Due.is("price: ahead", x.price(0, day, 599), 999);
            Due.is("price: the first minute", x.price(0, day, 600), 999 * (10 + day) / 100);
            Due.is("price: the last minute", x.price(0, day, 719), 999 * (10 + day) / 100);
            Due.is("price: behind", x.price(0, day, 720), 999);
        }
        x.priceRule(0, 0, 0, 0);
        Due.is("price: a RULE of no DAYS", x.price(0, 3, 600), 129);
        x.priceRule(127, 0, 1, 200);
        Due.is("price: a minute", x.price(0, 3, 0), 1998);
        Due.is("price: a minute alone", x.price(0, 3, 1), 999);
    }

    private static void promise28PriceOverMidnight() {
        BarMeasure x = new BarMeasure();
        x.recipe(1000);
        x.priceRule(1 << 6, 1320, 120, 150);
        Due.is("midnight: DAY 6 ahead", x.price(0, 6, 1319), 1000);
        Due.is("midnight: DAY 6", x.price(0, 6, 1320), 1500);
        Due.is("midnight: DAY 6 last", x.price(0, 6, 1439), 1500);
        Due.is("midnight: DAY 0", x.price(0, 0, 0), 1500);
        Due.is("midnight: DAY 0 last", x.price(0, 0, 119), 1500);
        Due.is("midnight: DAY 0 behind", x.price(0, 0, 120), 1000);
        Due.is("midnight: not DAY 0's night", x.price(0, 0, 1320), 1000);
        Due.is("midnight: not DAY 6's morning", x.price(0, 6, 0), 1000);
        x.priceRule(1 << 2, 720, 720, 50);
        Due.is("midnight: a whole day ahead", x.price(0, 2, 719), 1000);
        Due.is("midnight: a whole day", x.price(0, 2, 720), 500);
        Due.is("midnight: a whole day, last", x.price(0, 3, 719), 500);
        Due.is("midnight: a whole day behind", x.price(0, 3, 720), 1000);
        x.priceRule(1 << 4, 1000, 0, 20);
        Due.is("midnight: to 0", x.price(0, 4, 1439), 200);
        Due.is("midnight: to 0, behind", x.price(0, 5, 0), 1000);
    }

    private static void promise28PriceLatestAndFloor() {
        BarMeasure x = new BarMeasure();
        x.recipe(777);
        x.recipe(0);
        x.recipe(10000);
        x.priceRule(127, 0, 0, 50);
        Due.is("price: cut", x.price(0, 0, 0), 388);
        x.priceRule(2, 0, 0, 90);
        Due.is("price: the latest that holds", x.price(0, 1, 5), 699);
        Due.is("price: the one ahead of it", x.price(0, 0, 5), 388);
        x.priceRule(127, 100, 200, 0);
        Due.is("price: 0 hundredths", x.price(0, 1, 150), 0);
        x.rule(4, 389);
        Due.is("price: FLOOR", x.price(0, 0, 0), 389);
        Due.is("price: FLOOR of 0 hundredths", x.price(0, 1, 150), 389);
        Due.is("price: above FLOOR", x.price(0, 1, 5), 699);
        Due.is("price: FLOOR of PRICE 0", x.price(1, 1, 5), 389);
        x.priceRule(127, 0, 0, 200);
        Due.is("price: most", x.price(2, 0, 0), 20000);
        BarMeasure y = new BarMeasure();
        y.recipe(5);
        y.rule(4, 10000);
        Due.is("price: FLOOR without a RULE", y.price(0, 0, 0), 10000);
    }

    private static void promise28PriceBad() {
        BarMeasure x = new BarMeasure();
        Due.is("price: no RECIPE", x.price(0, 0, 0), -1);
        x.recipe(5);
        for (int far : new int[] {-1, 1, LEAST, MOST}) {
            Due.is("price: RECIPE " + far, x.price(far, 0, 0), -1);
        }
        for (int far : new int[] {-1, 7, LEAST, MOST}) {
            Due.is("price: DAY " + far, x.price(0, far, 0), -1);
        }
        for (int far : new int[] {-1, 1440, LEAST, MOST}) {
            Due.is("price: minute " + far, x.price(0, 0, far), -1);
        }
        Due.is("price: the last of all", x.price(0, 6, 1439), 5);
    }

    private static void promise29Person() {
        BarMeasure x = new BarMeasure();
        for (int far : new int[] {-1, 6, LEAST, MOST}) {
            Due.is("person: " + far, x.person(far, 1, 1), -1);
        }
        for (int far : new int[] {-1, 11, LEAST, MOST}) {
            Due.is("person: points " + far, x.person(0, far, 1), -1);
        }
        for (int far : new int[] {-1, 1441, LEAST, MOST}) {
            Due.is("person: minutes " + far, x.person(0, 1, far), -1);
        }
        Due.is("person: none yet", x.tips(9, 0), -2);
        Due.is("person: most numbers", x.person(5, 10, 1440), 0);
        Due.is("person: all to the one", x.tips(9, 5), 9);
        Due.is("person: another gets none", x.tips(9, 0), 0);
        Due.is("person: 0, 0 again", x.person(5, 0, 0), 0);
        Due.is("person: nobody", x.tips(9, 5), -2);
        x.person(0, 0, 1440);
        x.person(1, 10, 0);
        Due.is("person: POINTS times minutes is 0", x.tips(9, 0), -2);
        x.person(0, 3, 100);
        x.person(1, 1, 100);
        x.person(1, 11, 100);
        Due.is("person: BAD changes nothing", x.tips(100, 0), 75);
    }

    private static void promise30Tips() {
        BarMeasure x = new BarMeasure();
        for (int i = 0; i < 6; i++) {
            x.person(i, 10, 1440);
        }
        for (int i = 0; i < 6; i++) {
            Due.is("tips: the most amount", x.tips(1000000, i), i < 4 ? 166667 : 166666);
            Due.is("tips: 5 cents", x.tips(5, i), i < 5 ? 1 : 0);
            Due.is("tips: 6 cents", x.tips(6, i), 1);
            Due.is("tips: nothing to part", x.tips(0, i), 0);
        }
        x.person(0, 1, 1);
        int sum = 0;
        for (int i = 0; i < 6; i++) {
            sum += x.tips(999999, i);
        }
        Due.is("tips: to the cent", sum, 999999);
        Due.is("tips: a small share", x.tips(999999, 0), 14);
    }

    private static void promise30TipsRests() {
        BarMeasure x = new BarMeasure();
        x.person(1, 1, 5);
        x.person(3, 1, 3);
        x.person(4, 1, 2);
        Due.is("rests: 0.5, 0.3, 0.2 of 1", x.tips(1, 1), 1);
        Due.is("rests: 1.0, 0.6, 0.4 of 2", x.tips(2, 3), 1);
        Due.is("rests: 1.0, 0.6, 0.4 of 2, the last", x.tips(2, 4), 0);
        Due.is("rests: 1.5, 0.9, 0.6 of 3, the first", x.tips(3, 1), 1);
        Due.is("rests: 1.5, 0.9, 0.6 of 3, the second", x.tips(3, 3), 1);
        Due.is("rests: 1.5, 0.9, 0.6 of 3, the third", x.tips(3, 4), 1);
        Due.is("rests: none goes to one with no share", x.tips(3, 0), 0);
        x.person(0, 1, 3);
        x.person(1, 0, 0);
        Due.is("rests: 0.75, 0.75, 0.5 of 2, the lowest", x.tips(2, 0), 1);
        Due.is("rests: 0.75, 0.75, 0.5 of 2, the next", x.tips(2, 3), 1);
        Due.is("rests: 0.375, 0.375, 0.25 of 1, the lowest", x.tips(1, 0), 1);
        Due.is("rests: 0.375, 0.375, 0.25 of 1, the next", x.tips(1, 3), 0);
    }

    private static void promise30TipsBadAndNo() {
        BarMeasure x = new BarMeasure();
        Due.is("tips: NO", x.tips(0, 0), -2);
        for (int far : new int[] {-1, 1000001, LEAST, MOST}) {
            Due.is("tips: amount " + far, x.tips(far, 0), -1);
        }
        for (int far : new int[] {-1, 6, LEAST, MOST}) {
            Due.is("tips: PERSON " + far, x.tips(1, far), -1);
        }
    }

    private static void promise31Keg() {
        BarMeasure x = new BarMeasure();
        for (int far : new int[] {999, 100001, 0, LEAST, MOST}) {
            Due.is("keg: ml " + far, x.keg(far, 4), -1);
        }
        for (int far : new int[] {-1, 41, LEAST, MOST}) {
            Due.is("keg: heat " + far, x.keg(1000, far), -1);
        }
        Due.is("keg: least ml, cut", x.keg(1000, 0), 1);
        Due.is("keg: most ml", x.keg(100000, 4), 190);
        Due.is("keg: 3 is no warmer", x.keg(100000, 3), 190);
        Due.is("keg: 5", x.keg(100000, 5), 186);
        Due.is("keg: 40", x.keg(100000, 40), 46);
        Due.is("keg: cut", x.keg(30526, 4), 57);
        x.rule(5, 0);
        Due.is("keg: no FOAM", x.keg(30500, 4), 61);
        Due.is("keg: no FOAM, cut", x.keg(30499, 4), 60);
        x.rule(6, 9);
        Due.is("keg: 90", x.keg(100000, 14), 20);
        Due.is("keg: 81", x.keg(100000, 13), 38);
        Due.is("keg: 90 at most", x.keg(100000, 15), 20);
        x.rule(5, 50);
        x.rule(6, 0);
        Due.is("keg: FOAM 0 alone", x.keg(100000, 40), 100);
    }

    private static void promise32Deal() {
        BarMeasure x = new BarMeasure();
        for (int far : new int[] {0, -1, 25, LEAST, MOST}) {
            Due.is("deal: bottles " + far, x.deal(far, 5), -1);
        }
        for (int far : new int[] {-1, 100001, LEAST, MOST}) {
            Due.is("deal: price " + far, x.deal(1, far), -1);
        }
        Due.is("deal: none yet", x.count(5), 0);
        Due.is("deal: most numbers", x.deal(24, 100000), 1);
        Due.is("deal: it counts", x.buy(25, 0), 200000);
        Due.is("deal: least numbers", x.deal(1, 0), 2);
        for (int i = 3; i <= 5; i++) {
            Due.is("deal: how many", x.deal(i, i), i);
        }
        Due.is("deal: FULL", x.deal(1, 1), -3);
        Due.is("deal: BAD ahead of FULL", x.deal(0, 1), -1);
        Due.is("deal: still 5", x.count(5), 5);
    }

    private static void promise33Buy() {
        BarMeasure x = new BarMeasure();
        x.deal(1, 100000);
        Due.is("buy: the dearest", x.buy(120, 0), 12000000);
        Due.is("buy: 120 of DEAL 0", x.buy(120, 2), 120);
        x.deal(7, 1000);
        x.deal(5, 800);
        Due.is("buy: 1 by a DEAL of 5", x.buy(1, 0), 800);
        Due.is("buy: 1 is 5 bottles", x.buy(1, 1), 5);
        Due.is("buy: DEAL 0 never", x.buy(1, 2), 0);
        Due.is("buy: DEAL 1 never", x.buy(1, 3), 0);
        Due.is("buy: DEAL 2 once", x.buy(1, 4), 1);
        Due.is("buy: 17 is 7 and 5 and 5", x.buy(17, 0), 2600);
        Due.is("buy: 17 bottles", x.buy(17, 1), 17);
        Due.is("buy: 17, DEAL 1", x.buy(17, 3), 1);
        Due.is("buy: 17, DEAL 2", x.buy(17, 4), 2);
        Due.is("buy: 120", x.buy(120, 0), 17400);
        Due.is("buy: 120, bottles", x.buy(120, 1), 120);
        Due.is("buy: 120, DEAL 1", x.buy(120, 3), 15);
        Due.is("buy: 120, DEAL 2", x.buy(120, 4), 3);
        BarMeasure y = new BarMeasure();
        y.deal(24, 0);
        Due.is("buy: 97 is 120", y.buy(97, 1), 120);
        Due.is("buy: 120 is 120", y.buy(120, 1), 120);
        for (int n = 1; n <= 120; n++) {
            Due.is("buy: " + n + " by 24", y.buy(n, 1), (n + 23) / 24 * 24);
        }
        y.deal(23, 0);
        Due.is("buy: 97 is 5 of 23", y.buy(97, 1), 115);
        Due.is("buy: 116 is 24 and 4 of 23", y.buy(116, 1), 116);
        Due.is("buy: 116, DEAL 0", y.buy(116, 2), 1);
        Due.is("buy: 116, DEAL 1", y.buy(116, 3), 4);
    }

    private static void promise33BuyTies() {
        BarMeasure x = new BarMeasure();
        x.deal(2, 200);
        x.deal(3, 300);
        x.deal(4, 400);
        x.deal(6, 500);
        Due.is("ties: 5 by 6", x.buy(5, 1), 5);
        Due.is("ties: 5 by DEAL 0 once", x.buy(5, 2), 1);
        Due.is("ties: 5 by DEAL 1 once", x.buy(5, 3), 1);
        Due.is("ties: 8 by 6 and 2", x.buy(8, 0), 700);
        Due.is("ties: 10, DEAL 0 twice", x.buy(10, 2), 2);
        Due.is("ties: 10, DEAL 2 not", x.buy(10, 4), 0);
        Due.is("ties: 9, DEAL 1", x.buy(9, 3), 1);
        BarMeasure y = new BarMeasure();
        y.deal(6, 100);
        y.deal(5, 100);
        Due.is("ties: least price, then fewest bottles", y.buy(5, 1), 5);
        Due.is("ties: by DEAL 1", y.buy(5, 3), 1);
        Due.is("ties: 11 by one of each", y.buy(11, 2), 1);
        y.deal(5, 100);
        Due.is("ties: the same DEAL told again", y.buy(10, 3), 2);
        Due.is("ties: the latter is left", y.buy(10, 4), 0);
    }

    private static void promise33BuyBadAndNo() {
        BarMeasure x = new BarMeasure();
        Due.is("buy: NO, the price", x.buy(1, 0), -2);
        Due.is("buy: NO, bottles", x.buy(1, 1), -2);
        Due.is("buy: BAD ahead of NO", x.buy(121, 0), -1);
        Due.is("buy: no DEAL 0", x.buy(1, 2), -1);
        x.deal(1, 1);
        for (int far : new int[] {0, -1, 121, LEAST, MOST}) {
            Due.is("buy: n " + far, x.buy(far, 0), -1);
        }
        for (int far : new int[] {-1, 3, LEAST, MOST}) {
            Due.is("buy: what " + far, x.buy(1, far), -1);
        }
        Due.is("buy: DEAL 0", x.buy(1, 2), 1);
    }

    private static void promise34Count() {
        BarMeasure x = new BarMeasure();
        for (int i = 0; i < 2; i++) {
            x.kind(0, 100, 100);
        }
        for (int i = 0; i < 3; i++) {
            x.recipe(1);
        }
        for (int i = 0; i < 4; i++) {
            x.night();
        }
        for (int i = 0; i < 5; i++) {
            x.priceRule(0, 0, 0, 0);
            x.receive(0, 1);
        }
        x.undo();
        x.lose(0, 0, 0, 1);
        x.lose(0, 0, 0, 1);
        x.deal(1, 1);
        for (int i = 0; i < 7; i++) {
            x.foretell(1, 1);
        }
        int[] due = {2, 3, 4, 6, 5, 1, 7};
        for (int what = 0; what <= 6; what++) {
            Due.is("count: " + what, x.count(what), due[what]);
        }
        for (int far : new int[] {-1, 7, LEAST, MOST}) {
            Due.is("count: what " + far, x.count(far), -1);
        }
    }
}
