/** What an object has lived through ahead of a call that is tested. None takes more than 180 calls. */
final class Life {
    interface Calls {
        void on(BarMeasure x);
    }

    /** Nothing told yet. */
    static final Life NEW = new Life("a new object", x -> { });

    /**
     * NIGHT 2 of three KINDS, four RECIPES, with a little of everything; RECIPES 0 and 1 are SOLD in it, 2 and 3 not.
     * SCALE and POUR are not as they were when it was WEIGHED, so that a SPAN reckoned anew shows.
     */
    static final Life EVENING = new Life("an evening", Life::leadToAnEvening);

    /** Every table is full: the last NIGHT, 40 acts kept of 47, THE STORE at 1000 bottles of KIND 0. */
    static final Life FULL = new Life("all full", Life::leadToFull);

    final String name;
    private final Calls calls;
    private long[] answersAfterwards = null;

    Life(String name, Calls calls) {
        this.name = name;
        this.calls = calls;
    }

    Life then(String more, Calls moreCalls) {
        return new Life(name + ", then " + more, x -> {
            calls.on(x);
            moreCalls.on(x);
        });
    }

    BarMeasure lived() {
        BarMeasure x = new BarMeasure();
        calls.on(x);
        return x;
    }

    /** Asked once: the same calls always give the same answers. */
    long[] answersAfterwards() {
        if (answersAfterwards == null) {
            answersAfterwards = Afterwards.answersOf(this);
        }
        return answersAfterwards;
    }

    private static void leadToAnEvening(BarMeasure x) {
        x.kind(400, 700, 94);
        x.kind(0, 1000, 100);
        x.kind(550, 750, 103);
        int[] prices = {900, 500, 1250, 70};
        for (int price : prices) {
            x.recipe(price);
        }
        x.part(0, 0, 5);
        x.part(0, 1, 2);
        x.part(1, 1, 20);
        x.part(2, 0, 1);
        x.part(2, 2, 7);
        int[] settings = {3, 2, 4, 7, 60, 6, 3};
        for (int what = 0; what < settings.length; what++) {
            x.rule(what, settings[what]);
        }
        tellOfMoney(x);
        for (int kind = 0; kind < 3; kind++) {
            x.receive(kind, 40 + kind);
            x.issue(0, kind, 7);
            x.issue(1, kind, 9);
        }
        x.keeper(1, 1);
        for (int night = 0; night < 2; night++) {
            serveAndWeigh(x, night);
            x.night();
        }
        x.receive(1, 3);
        x.issue(0, 1, 2);
        x.lend(0, 0, 250);
        x.sell(0, 0, 3, 5, 1400);
        x.sell(1, 1, 6, 6, 30);
        x.lose(1, 1, 0, 20);
        x.lose(0, 0, 1, 45);
        x.weigh(0, 0, 5, 480);
        x.weigh(1, 1, 8, 12);
        x.rule(0, 5);
        x.rule(1, 4);
    }

    private static void tellOfMoney(BarMeasure x) {
        x.foretell(30, 4);
        x.foretell(75, 9);
        x.foretell(120, 2);
        x.priceRule(62, 960, 1140, 50);
        x.priceRule(96, 1320, 120, 150);
        x.person(0, 10, 480);
        x.person(1, 7, 480);
        x.person(3, 10, 240);
        x.deal(6, 5000);
        x.deal(1, 1000);
        x.deal(5, 4300);
    }

    private static void serveAndWeigh(BarMeasure x, int night) {
        x.sell(0, 0, 8 + night, 1, 1000);
        x.sell(1, 0, 5, 2, 1200);
        x.sell(1, 1, 4 + night, 3, 100);
        x.weigh(0, 0, 6, 500 + 9 * night);
        x.weigh(1, 0, 8, 700);
        x.weigh(0, 1, 6, 850);
        x.weigh(1, 1, 8, 400);
    }

    private static void leadToFull(BarMeasure x) {
        for (int kind = 0; kind < 10; kind++) {
            x.kind(300 + kind, 500 + 50 * kind, 80 + 3 * kind);
        }
        for (int recipe = 0; recipe < 12; recipe++) {
            x.recipe(100 * recipe);
            x.part(recipe, recipe % 10, recipe + 1);
            x.part(recipe, (recipe + 4) % 10, 20 - recipe);
        }
        for (int i = 0; i < 8; i++) {
            x.foretell(25 * i, 100 - 12 * i);
        }
        for (int i = 0; i < 12; i++) {
            x.priceRule(1 << i % 7, 100 * i, 1400 - 110 * i, 40 + 9 * i);
        }
        for (int i = 0; i < 6; i++) {
            x.person(i, 10 - i, 100 * i);
        }
        for (int i = 0; i < 5; i++) {
            x.deal(1 + 5 * i, 900 + 4400 * i);
        }
        for (int night = 0; night < 19; night++) {
            x.keeper(night % 2, night % 3);
            x.night();
        }
        for (int i = 0; i < 10; i++) {
            x.receive(0, 100);
        }
        actFortyTimes(x);
    }

    private static void actFortyTimes(BarMeasure x) {
        for (int i = 0; i < 4; i++) {
            x.receive(1 + i, 20);
            x.issue(i % 2, 1 + i, 10);
            x.lend(i % 2, 1 + i, 700);
            x.sell(0, i, 2, i, 300 * i);
            x.sell(1, i + 4, 3, i, 400 * i);
            x.lose(0, i, 0, 11);
            x.lose(1, i, 1, 12);
            x.weigh(0, i, 3, 350);
            x.weigh(1, i, 4, 360);
        }
        x.lose(1, 9, 1, 10000);
    }
}
