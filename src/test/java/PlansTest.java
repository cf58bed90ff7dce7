/** Promises 21 to 26: foretell, forget, press, makes, fewest, most. */
public final class PlansTest {
    private static final int LEAST = Integer.MIN_VALUE, MOST = Integer.MAX_VALUE;

    public static void main(String[] args) {
        promise21Foretell();
        promise22Forget();
        promise23Cost();
        promise23Par();
        promise23NoAndBad();
        promise24Makes();
        promise25Fewest();
        promise25FewestTies();
        promise26Most();
        Due.end();
    }

    private static void promise21Foretell() {
        BarMeasure x = new BarMeasure();
        for (int far : new int[] {-1, 201, LEAST, MOST}) {
            Due.is("foretell: amount " + far, x.foretell(far, 1), -1);
        }
        for (int far : new int[] {0, -1, 101, LEAST, MOST}) {
            Due.is("foretell: weight " + far, x.foretell(1, far), -1);
        }
        Due.is("foretell: none yet", x.count(6), 0);
        Due.is("foretell: least numbers", x.foretell(0, 1), 1);
        Due.is("foretell: most numbers", x.foretell(200, 100), 2);
        for (int i = 3; i <= 8; i++) {
            Due.is("foretell: how many", x.foretell(5, 5), i);
        }
        Due.is("foretell: FULL", x.foretell(5, 5), -3);
        Due.is("foretell: BAD ahead of FULL", x.foretell(5, 0), -1);
        Due.is("foretell: still 8", x.count(6), 8);
        Due.is("foretell: all count", x.press(0), 100 * 200 + 6 * 25);
    }

    private static void promise22Forget() {
        BarMeasure x = new BarMeasure();
        Due.is("forget: none", x.forget(), 0);
        for (int i = 1; i <= 8; i++) {
            x.foretell(10, 10);
        }
        Due.is("forget: 8", x.forget(), 8);
        Due.is("forget: nothing is FORETOLD", x.count(6), 0);
        Due.is("forget: no PAR", x.press(-1), -2);
        Due.is("forget: anew", x.foretell(3, 2), 1);
        Due.is("forget: the new one alone", x.press(0), 6);
        Due.is("forget: 1", x.forget(), 1);
    }

    private static void promise23Cost() {
        BarMeasure x = new BarMeasure();
        x.foretell(50, 3);
        x.foretell(80, 2);
        Due.is("press: between", x.press(60), 3 * 10 + 2 * 20);
        x.rule(2, 7);
        Due.is("press: WASTE", x.press(60), 3 * 70 + 2 * 20);
        x.rule(3, 4);
        Due.is("press: LACK", x.press(60), 3 * 70 + 2 * 80);
        Due.is("press: 0", x.press(0), 3 * 200 + 2 * 320);
        Due.is("press: 200", x.press(200), 3 * 1050 + 2 * 840);
        Due.is("press: an amount itself", x.press(50), 2 * 120);
        x.forget();
        x.rule(2, 100);
        for (int i = 0; i < 8; i++) {
            x.foretell(0, 100);
        }
        Due.is("press: the dearest", x.press(200), 16000000);
    }

    private static void promise23Par() {
        BarMeasure x = new BarMeasure();
        x.foretell(200, 1);
        Due.is("par: 200", x.press(-1), 200);
        x.foretell(30, 1);
        Due.is("par: of several the least", x.press(-1), 30);
        x.foretell(70, 1);
        Due.is("par: the middle", x.press(-1), 70);
        x.rule(3, 9);
        Due.is("par: LACK is dear", x.press(-1), 200);
        x.rule(2, 100);
        Due.is("par: WASTE is dear", x.press(-1), 30);
        x.rule(2, 0);
        x.rule(3, 0);
        Due.is("par: all for nothing", x.press(-1), 0);
        x.rule(2, 1);
        Due.is("par: LACK for nothing", x.press(-1), 0);
        x.rule(2, 0);
        x.rule(3, 1);
        Due.is("par: WASTE for nothing", x.press(-1), 200);
        for (int amount = 0; amount <= 200; amount++) {
            BarMeasure y = new BarMeasure();
            y.foretell(amount, 1);
            Due.is("par: an amount alone", y.press(-1), amount);
        }
    }

    private static void promise23NoAndBad() {
        BarMeasure x = new BarMeasure();
        Due.is("press: NO ahead of BAD", x.press(201), -2);
        Due.is("press: NO ahead of BAD", x.press(LEAST), -2);
        Due.is("press: NO for PAR", x.press(-1), -2);
        x.foretell(0, 1);
        for (int far : new int[] {-2, 201, LEAST, MOST}) {
            Due.is("press: q " + far, x.press(far), -1);
        }
        Due.is("press: PAR 0", x.press(-1), 0);
    }

    /** KINDS 0 to 4; RECIPES by sets 00011, 00110, 11000, 00010, one without PARTS. */
    private static BarMeasure fiveKinds() {
        BarMeasure x = new BarMeasure();
        for (int i = 0; i < 5; i++) {
            x.kind(0, 500, 100);
            x.recipe(100);
        }
        x.part(0, 0, 1);
        x.part(0, 1, 20);
        x.part(1, 1, 2);
        x.part(1, 2, 2);
        x.part(2, 3, 2);
        x.part(2, 4, 2);
        x.part(3, 1, 2);
        return x;
    }

    private static void promise24Makes() {
        BarMeasure x = new BarMeasure();
        Due.is("makes: no KINDS", x.makes(0), 0);
        Due.is("makes: not there", x.makes(1), -1);
        x = fiveKinds();
        Due.is("makes: none", x.makes(0), 0);
        Due.is("makes: KIND 1", x.makes(2), 1);
        Due.is("makes: KIND 0", x.makes(1), 0);
        Due.is("makes: KINDS 0, 1", x.makes(3), 2);
        Due.is("makes: KINDS 0, 1, 2", x.makes(7), 3);
        Due.is("makes: KINDS 3, 4", x.makes(24), 1);
        Due.is("makes: KIND 3 alone", x.makes(8), 0);
        Due.is("makes: all, but not that without PARTS", x.makes(31), 4);
        for (int far : new int[] {-1, 32, LEAST, MOST}) {
            Due.is("makes: " + far, x.makes(far), -1);
        }
        x.part(4, 4, 1);
        Due.is("makes: the fifth", x.makes(16), 1);
        x.part(4, 4, 0);
        Due.is("makes: the fifth no more", x.makes(16), 0);
    }

    private static void promise25Fewest() {
        BarMeasure x = new BarMeasure();
        Due.is("fewest: no RECIPES", x.fewest(1), -4);
        x = fiveKinds();
        Due.is("fewest: 1", x.fewest(1), 2);
        Due.is("fewest: 2", x.fewest(2), 3);
        Due.is("fewest: 3", x.fewest(3), 7);
        Due.is("fewest: 4", x.fewest(4), 31);
        Due.is("fewest: 5, that without PARTS is none", x.fewest(5), -4);
        Due.is("fewest: 12", x.fewest(12), -4);
        for (int far : new int[] {0, -1, 13, LEAST, MOST}) {
            Due.is("fewest: " + far, x.fewest(far), -1);
        }
        x.part(4, 3, 1);
        Due.is("fewest: one that makes more", x.fewest(3), 7);
        Due.is("fewest: 5", x.fewest(5), 31);
    }

    private static void promise25FewestTies() {
        BarMeasure x = new BarMeasure();
        for (int i = 0; i < 10; i++) {
            x.kind(0, 500, 100);
        }
        x.recipe(1);
        x.recipe(1);
        x.recipe(1);
        x.part(0, 9, 1);
        x.part(1, 0, 1);
        x.part(1, 1, 1);
        Due.is("fewest: fewer KINDS ahead of less bits", x.fewest(1), 512);
        x.part(2, 4, 1);
        Due.is("fewest: of several the least bits", x.fewest(1), 16);
        Due.is("fewest: two of one KIND", x.fewest(2), 528);
        Due.is("fewest: three", x.fewest(3), 531);
    }

    private static void promise26Most() {
        BarMeasure x = new BarMeasure();
        Due.is("most: no KINDS", x.most(0), 0);
        Due.is("most: there is none", x.most(1), -1);
        x = fiveKinds();
        Due.is("most: 0", x.most(0), 0);
        Due.is("most: 1", x.most(1), 2);
        Due.is("most: 2", x.most(2), 3);
        Due.is("most: 3", x.most(3), 7);
        Due.is("most: 4 with least bits", x.most(4), 15);
        Due.is("most: 5", x.most(5), 31);
        for (int far : new int[] {-1, 6, LEAST, MOST}) {
            Due.is("most: " + far, x.most(far), -1);
        }
        x.part(4, 3, 1);
        Due.is("most: 2 still", x.most(2), 3);
        Due.is("most: 4 by more RECIPES", x.most(4), 15);
        x.part(0, 0, 0);
        x.part(0, 4, 1);
        Due.is("most: 3 by more RECIPES", x.most(3), 26);
        BarMeasure none = new BarMeasure();
        none.kind(0, 500, 100);
        none.kind(0, 500, 100);
        Due.is("most: k KINDS though none is made", none.most(1), 1);
        Due.is("most: all though none is made", none.most(2), 3);
    }
}
