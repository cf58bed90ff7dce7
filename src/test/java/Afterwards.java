import java.util.Arrays;

/**
 * All that can be asked of an object, and what it does when it lives on: after a call that changes
 * nothing, every answer must be what it would have been without the call. What is asked is spread
 * over objects of the same life, as nothing is promised after the 512th call of one.
 */
final class Afterwards {
    private static final int MOST_CALLS = 300;

    private final Life life;
    private final Edge.Call ahead;
    private final String name;
    private final long[] due;
    private long[] answers = new long[4096];
    private int asked = 0;
    private int callsOfThisOne = 0;
    private BarMeasure x;
    private boolean differs = false;

    private Afterwards(Life life, Edge.Call ahead, String name, long[] due) {
        this.life = life;
        this.ahead = ahead;
        this.name = name;
        this.due = due;
        anew();
    }

    static long[] answersOf(Life life) {
        Afterwards plain = new Afterwards(life, null, life.name, null);
        plain.askAll();
        return Arrays.copyOf(plain.answers, plain.asked);
    }

    /** Tells the first answer that the call has changed, if there is one. */
    static void mustBeAsBefore(String name, Life life, Edge.Call call) {
        new Afterwards(life, call, name, life.answersAfterwards()).askAll();
    }

    private void anew() {
        x = life.lived();
        if (ahead != null) {
            ahead.on(x);
        }
        callsOfThisOne = 0;
    }

    private void makeRoom() {
        if (callsOfThisOne >= MOST_CALLS) {
            anew();
        }
    }

    private void note(long answer, String call, int... args) {
        callsOfThisOne++;
        if (due == null) {
            if (asked == answers.length) {
                answers = Arrays.copyOf(answers, 2 * asked);
            }
            answers[asked] = answer;
        } else if (answer != due[asked] && !differs) {
            differs = true;
            String asking = call + Arrays.toString(args);
            Due.tell(name + ": afterwards " + asking + " answered " + answer + ", without it " + due[asked]);
        }
        asked++;
    }

    private void askAll() {
        askCountsAndMoney();
        askPrices();
        askOfKinds();
        askOfNights();
        anew();
        undoAll();
        anew();
        liveOnTonight();
        anew();
        liveOnTomorrow();
        anew();
        tellMore();
    }

    private void askCountsAndMoney() {
        for (int what = -1; what <= 7; what++) {
            note(x.count(what), "count", what);
        }
        for (int bar = 0; bar <= 1; bar++) {
            note(x.takings(bar), "takings", bar);
        }
        for (int q = -1; q <= 200; q += 7) {
            note(x.press(q), "press", q);
        }
        for (int set = 0; set <= 1024; set = 2 * set + 1) {
            note(x.makes(set), "makes", set);
            note(x.makes(set ^ 5), "makes", set ^ 5);
        }
        for (int m = 1; m <= 12; m += 2) {
            note(x.fewest(m), "fewest", m);
            note(x.most(m - 1), "most", m - 1);
        }
        for (int person = 0; person <= 5; person++) {
            note(x.tips(1000000, person), "tips", 1000000, person);
            note(x.tips(17, person), "tips", 17, person);
        }
        for (int heat = 0; heat <= 40; heat += 5) {
            note(x.keg(99999, heat), "keg", 99999, heat);
        }
        for (int n = 1; n <= 120; n += 17) {
            for (int what = 0; what <= 6; what++) {
                note(x.buy(n, what), "buy", n, what);
            }
        }
    }

    private void askPrices() {
        anew();
        for (int day = 0; day <= 6; day++) {
            for (int minute = 0; minute <= 1439; minute += 120) {
                int recipe = (day + minute / 120) % 4;
                note(x.price(recipe, day, minute), "price", recipe, day, minute);
            }
        }
        for (int recipe = 0; recipe <= 12; recipe++) {
            note(x.price(recipe, 3, 1439), "price", recipe, 3, 1439);
        }
    }

    private void askOfKinds() {
        for (int kind = 0; kind <= 10; kind++) {
            makeRoom();
            for (int bar = 0; bar <= 2; bar++) {
                note(x.has(bar, kind), "has", bar, kind);
            }
            for (int what = 0; what <= 4; what++) {
                note(x.all(kind, what), "all", kind, what);
            }
            for (int keeper = 0; keeper <= 2; keeper++) {
                note(x.over(keeper, kind, 0), "over", keeper, kind, 0);
                note(x.over(keeper, kind, 1), "over", keeper, kind, 1);
                note(x.leans(keeper, kind), "leans", keeper, kind);
            }
        }
    }

    /** Of NIGHTS that ended some, of the latest three all. */
    private void askOfNights() {
        int tonight = x.count(2);
        for (int night = 0; night <= tonight; night += night < tonight - 3 ? 5 : 1) {
            for (int kind = 0; kind <= 9; kind++) {
                makeRoom();
                for (int i = 0; i < 10; i++) {
                    note(x.gap(night, i / 5, kind, i % 5), "gap", night, i / 5, kind, i % 5);
                }
            }
        }
    }

    private void undoAll() {
        for (int i = 0; i <= 41; i++) {
            note(x.undo(), "undo");
            for (int bar = 0; bar <= 2; bar++) {
                note(x.has(bar, i % 4), "has", bar, i % 4);
            }
            note(x.all(i % 4, i % 5), "all", i % 4, i % 5);
            note(x.takings(i % 2), "takings", i % 2);
        }
        tryPartsAndWeighing();
    }

    /** PARTS and weighings that are shut stay shut, the others free. */
    private void tryPartsAndWeighing() {
        for (int recipe = 0; recipe < 12; recipe++) {
            note(x.part(recipe, recipe % 3, 9), "part", recipe, recipe % 3, 9);
        }
        for (int kind = 0; kind < 10; kind++) {
            note(x.weigh(0, kind, 1, 700), "weigh", 0, kind, 1, 700);
            note(x.weigh(1, kind, 2, 800), "weigh", 1, kind, 2, 800);
        }
    }

    private void liveOnTonight() {
        tryPartsAndWeighing();
        for (int kind = 0; kind < 10; kind++) {
            note(x.receive(kind, 1), "receive", kind, 1);
            note(x.issue(kind % 2, kind, 2), "issue", kind % 2, kind, 2);
            note(x.lend(kind % 2, kind, 3), "lend", kind % 2, kind, 3);
            note(x.lose(kind % 2, kind, 0, 4), "lose", kind % 2, kind, 0, 4);
        }
        for (int recipe = 0; recipe < 12; recipe++) {
            note(x.sell(1, recipe, 2, 6, 50), "sell", 1, recipe, 2, 6, 50);
        }
        for (int kind = 0; kind < 10; kind++) {
            note(x.gap(x.count(2), 1, kind, 1), "gap of tonight", 1, kind, 1);
            note(x.gap(x.count(2), 1, kind, 3), "gap of tonight", 1, kind, 3);
        }
        for (int i = 0; i <= 41; i++) {
            note(x.undo(), "undo");
        }
        note(x.keeper(0, 2), "keeper", 0, 2);
        note(x.keeper(1, 2), "keeper", 1, 2);
    }

    private void liveOnTomorrow() {
        note(x.night(), "night");
        note(x.undo(), "undo");
        tryPartsAndWeighing();
        for (int kind = 0; kind < 10; kind++) {
            note(x.gap(x.count(2), 0, kind, 4), "gap of the new NIGHT", 0, kind, 4);
            note(x.gap(x.count(2), 1, kind, 4), "gap of the new NIGHT", 1, kind, 4);
            note(x.has(0, kind), "has", 0, kind);
        }
    }

    private void tellMore() {
        for (int what = 0; what <= 6; what++) {
            note(x.rule(what, 1), "rule", what, 1);
        }
        note(x.kind(1, 100, 50), "kind");
        note(x.has(0, x.count(0) - 1), "has of the new KIND");
        note(x.recipe(9), "recipe");
        note(x.part(x.count(1) - 1, x.count(0) - 1, 3), "part of the new ones");
        note(x.sell(0, x.count(1) - 1, 2, 4, 800), "sell of the new RECIPE");
        note(x.has(0, x.count(0) - 1), "has of the new KIND");
        note(x.foretell(90, 10), "foretell");
        note(x.press(50), "press", 50);
        note(x.press(-1), "press", -1);
        note(x.forget(), "forget");
        note(x.foretell(1, 1), "foretell");
        note(x.press(0), "press", 0);
        note(x.priceRule(127, 0, 0, 33), "priceRule");
        note(x.price(0, 0, 0), "price", 0, 0, 0);
        note(x.deal(2, 1), "deal");
        note(x.buy(9, 0), "buy", 9, 0);
        for (int person = 0; person <= 5; person++) {
            note(x.tips(100, person), "tips", 100, person);
            note(x.person(person, 1, 1), "person", person, 1, 1);
        }
    }
}
