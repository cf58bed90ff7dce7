/** Boundary cases of promises 6 to 14: receive to night; a test for each sentence. */
public final class EdgesActsTest {
    /** KINDS 0, 1: a gram is a ml, 1000 ml a bottle; RECIPE 0: 1 PART of KIND 0 for 100; THE STORE has 20, BAR 0 has 10 bottles of KIND 0. */
    private static final Life PLAIN = new Life("a plain bar", x -> {
        x.kind(0, 1000, 100);
        x.kind(0, 1000, 100);
        x.recipe(100);
        x.part(0, 0, 1);
        x.receive(0, 30);
        x.issue(0, 0, 10);
        x.night();
    });

    public static void main(String[] args) throws ReflectiveOperationException {
        Edge.runAll(EdgesActsTest.class);
    }

    // ---- Promise 6: "n bottles (1 to 100) are RECEIVED: how many THE STORE has. BAD; FULL: above 1000."

    private static void promise6_n_bottles_1_to_100() {
        Edge.refusedBeyond("Promise 6, \"n bottles (1 to 100)\"", 1, 100, Edge.BAD, (x, far) -> x.receive(0, far));
        BarMeasure x = PLAIN.lived();
        Due.is("Promise 6, 1 bottle", x.receive(1, 1), 1);
        Due.is("Promise 6, 100 bottles", x.receive(1, 100), 101);
        Due.is("Promise 6, all that were RECEIVED", x.all(1, 4), 101);
    }

    private static void promise6_no_such_KIND() {
        Edge.refusedNoSuchKind("Promise 6", Edge.BAD, (x, kind) -> x.receive(kind, 1));
        Due.is("Promise 6, the last KIND", Life.FULL.lived().receive(9, 5), 5);
    }

    private static void promise6_FULL_above_1000() {
        Edge.refused("Promise 6, \"FULL: above 1000\": 1 on 1000", Life.FULL, Edge.FULL, x -> x.receive(0, 1));
        Edge.refused("Promise 6, \"FULL: above 1000\": 100 on 1000", Life.FULL, Edge.FULL, x -> x.receive(0, 100));
        Life at999 = Life.FULL.then("one ISSUED", x -> x.issue(1, 0, 1));
        Edge.refused("Promise 6, \"FULL: above 1000\": 2 on 999", at999, Edge.FULL, x -> x.receive(0, 2));
        Due.is("Promise 6, 1000 is not above 1000: 1 on 999", at999.lived().receive(0, 1), 1000);
        Life at901 = Life.FULL.then("99 ISSUED", x -> x.issue(1, 0, 99));
        Edge.refused("Promise 6, \"FULL: above 1000\": 100 on 901", at901, Edge.FULL, x -> x.receive(0, 100));
        Due.is("Promise 6, 1000 is not above 1000: 99 on 901", at901.lived().receive(0, 99), 1000);
    }

    private static void promise6_FULL_is_each_KIND_of_its_own() {
        BarMeasure x = Life.FULL.lived();
        Due.is("Promise 6, KIND 0 is FULL", x.receive(0, 1), -3);
        Due.is("Promise 6, KIND 8 is not", x.receive(8, 100), 100);
    }

    private static void promise6_FULL_no_more_when_UNDONE() {
        BarMeasure x = PLAIN.lived();
        for (int i = 0; i < 10; i++) {
            x.receive(1, 100);
        }
        Due.is("Promise 6, FULL", x.receive(1, 1), -3);
        x.undo();
        Due.is("Promise 6, \"how many THE STORE has\": behind undo", x.receive(1, 99), 999);
        Due.is("Promise 6, all that were RECEIVED, without those UNDONE", x.all(1, 4), 999);
    }

    private static void promise6_several_the_first_BAD_ahead_of_FULL() {
        Edge.refused("Promise 6, BAD ahead of FULL: 101", Life.FULL, Edge.BAD, x -> x.receive(0, 101));
        Edge.refused("Promise 6, BAD ahead of FULL: greatest", Life.FULL, Edge.BAD, x -> x.receive(0, Integer.MAX_VALUE));
    }

    // ---- Promise 7: "n bottles (1 to 100) are ISSUED: THE BOOK of that BAR. BAD ..; NO (THE STORE has not so many) .."

    private static void promise7_n_bottles_1_to_100() {
        Edge.refusedBeyond("Promise 7, \"n bottles (1 to 100)\"", 1, 100, Edge.FAR_BAD, (x, far) -> x.issue(0, 0, far));
        BarMeasure x = Life.FULL.lived();
        int book = x.has(1, 0);
        Due.is("Promise 7, 1 bottle", x.issue(1, 0, 1), book + 500);
        Due.is("Promise 7, 100 bottles", x.issue(1, 0, 100), book + 50500);
        Due.is("Promise 7, THE STORE", x.has(2, 0), 899);
    }

    private static void promise7_BARS_0_1() {
        Edge.refusedNoSuchBar("Promise 7", Edge.FAR_BAD, (x, bar) -> x.issue(bar, 0, 1));
        BarMeasure x = PLAIN.lived();
        Due.is("Promise 7, BAR 0", x.issue(0, 0, 1), 11000);
        Due.is("Promise 7, BAR 1", x.issue(1, 0, 1), 1000);
    }

    private static void promise7_no_such_KIND() {
        Edge.refusedNoSuchKind("Promise 7", Edge.FAR_BAD, (x, kind) -> x.issue(1, kind, 1));
    }

    private static void promise7_NO_THE_STORE_has_not_so_many() {
        Edge.refused("Promise 7, \"NO\": none there", PLAIN, Edge.FAR_NO, x -> x.issue(0, 1, 1));
        Edge.refused("Promise 7, \"NO\": one too many", PLAIN, Edge.FAR_NO, x -> x.issue(0, 0, 21));
        Edge.refused("Promise 7, \"NO\": 100 of 20", PLAIN, Edge.FAR_NO, x -> x.issue(1, 0, 100));
        Edge.refused("Promise 7, \"NO\": with 40 acts kept", Life.FULL, Edge.FAR_NO, x -> x.issue(1, 9, 1));
        Life empty = PLAIN.then("all ISSUED", x -> x.issue(1, 0, 20));
        Due.is("Promise 7, all that THE STORE has", PLAIN.lived().issue(1, 0, 20), 20000);
        Edge.refused("Promise 7, \"NO\": THE STORE is empty", empty, Edge.FAR_NO, x -> x.issue(1, 0, 1));
    }

    private static void promise7_THE_BOOK_may_be_below_0() {
        BarMeasure x = PLAIN.lived();
        x.lose(1, 0, 0, 3001);
        Due.is("Promise 7, on a BOOK below 0", x.issue(1, 0, 2), -1001);
        Due.is("Promise 7, to just below 0 and above", x.issue(1, 0, 2), 999);
    }

    private static void promise7_several_the_first_BAD_ahead_of_NO() {
        Edge.refused("Promise 7, BAD ahead of NO: n", PLAIN, Edge.FAR_BAD, x -> x.issue(0, 1, 101));
        Edge.refused("Promise 7, BAD ahead of NO: BAR", PLAIN, Edge.FAR_BAD, x -> x.issue(2, 1, 1));
    }

    // ---- Promise 8: "ml (1 to 10000) are LENT by a BAR: THE BOOK of the other one. BAD ..; NO (it has not so much by THE BOOK) .."

    private static void promise8_ml_1_to_10000() {
        Edge.refusedBeyond("Promise 8, \"ml (1 to 10000)\"", 1, 10000, Edge.FAR_BAD, (x, far) -> x.lend(0, 0, far));
        BarMeasure x = PLAIN.lived();
        Due.is("Promise 8, 1 ml", x.lend(0, 0, 1), 1);
        x.issue(0, 0, 1);
        Due.is("Promise 8, 10000 ml", x.lend(0, 0, 10000), 10001);
        Due.is("Promise 8, what is left", x.has(0, 0), 999);
    }

    private static void promise8_BARS_0_1() {
        Edge.refusedNoSuchBar("Promise 8", Edge.FAR_BAD, (x, bar) -> x.lend(bar, 0, 1));
        BarMeasure x = PLAIN.lived();
        Due.is("Promise 8, by BAR 0", x.lend(0, 0, 700), 700);
        Due.is("Promise 8, by BAR 1", x.lend(1, 0, 600), 9900);
        Due.is("Promise 8, BAR 1 has the rest", x.has(1, 0), 100);
    }

    private static void promise8_no_such_KIND() {
        Edge.refusedNoSuchKind("Promise 8", Edge.FAR_BAD, (x, kind) -> x.lend(0, kind, 1));
    }

    private static void promise8_NO_it_has_not_so_much_by_THE_BOOK() {
        Edge.refused("Promise 8, \"NO\": it has 0", PLAIN, Edge.FAR_NO, x -> x.lend(1, 0, 1));
        Life at9000 = PLAIN.then("a bottle SPILT", x -> x.lose(0, 0, 0, 1000));
        Edge.refused("Promise 8, \"NO\": one ml too much", at9000, Edge.FAR_NO, x -> x.lend(0, 0, 9001));
        Due.is("Promise 8, all that it has", at9000.lived().lend(0, 0, 9000), 9000);
        Life below = PLAIN.then("sales below 0", x -> x.sell(1, 0, 1, 0, 0));
        Edge.refused("Promise 8, \"NO\": it is below 0", below, Edge.FAR_NO, x -> x.lend(1, 0, 1));
        Edge.refused("Promise 8, \"NO\": with 40 acts kept", Life.FULL, Edge.FAR_NO, x -> x.lend(0, 9, 1));
        Due.is("Promise 8, the other one may be below 0", below.lived().lend(0, 0, 2), -4);
    }

    private static void promise8_several_the_first_BAD_ahead_of_NO() {
        Edge.refused("Promise 8, BAD ahead of NO: ml", PLAIN, Edge.FAR_BAD, x -> x.lend(1, 0, 10001));
        Edge.refused("Promise 8, BAD ahead of NO: BAR", PLAIN, Edge.FAR_BAD, x -> x.lend(2, 1, 1));
    }

    // ---- Promise 9: "n drinks (1 to 100) of a RECIPE are SOLD at a BAR, on a DAY at a minute: what they cost together. BAD."

    private static void promise9_n_drinks_1_to_100() {
        Edge.refusedBeyond("Promise 9, \"n drinks (1 to 100)\"", 1, 100, Edge.BAD, (x, far) -> x.sell(0, 0, far, 0, 0));
        BarMeasure x = PLAIN.lived();
        Due.is("Promise 9, 1 drink", x.sell(0, 0, 1, 0, 0), 100);
        Due.is("Promise 9, 100 drinks", x.sell(0, 0, 100, 0, 0), 10000);
        Due.is("Promise 9, DRINKS", x.gap(1, 0, 0, 3), 101);
        Due.is("Promise 9, ml of them", x.all(0, 0), 606);
    }

    private static void promise9_BARS_0_1() {
        Edge.refusedNoSuchBar("Promise 9", Edge.BAD, (x, bar) -> x.sell(bar, 0, 1, 0, 0));
        BarMeasure x = PLAIN.lived();
        x.sell(1, 0, 2, 0, 0);
        Due.is("Promise 9, BAR 1", x.takings(1), 200);
        Due.is("Promise 9, BAR 0 sold none", x.takings(0), 0);
    }

    private static void promise9_no_such_RECIPE() {
        Edge.refusedNoSuchRecipe("Promise 9", Edge.BAD, (x, recipe) -> x.sell(0, recipe, 1, 0, 0));
        Due.is("Promise 9, the last RECIPE", PLAIN.then("RECIPE 1", x -> x.recipe(7)).lived().sell(0, 1, 1, 0, 0), 7);
    }

    private static void promise9_DAY_0_to_6() {
        Edge.refusedBeyond("Promise 9, \"a DAY (0 to 6)\"", 0, 6, Edge.BAD, (x, far) -> x.sell(0, 0, 1, far, 0));
        BarMeasure x = PLAIN.then("RULES of DAYS 0, 6", y -> {
            y.priceRule(1, 0, 0, 10);
            y.priceRule(64, 0, 0, 20);
        }).lived();
        Due.is("Promise 9, DAY 0", x.sell(0, 0, 1, 0, 700), 10);
        Due.is("Promise 9, DAY 6", x.sell(0, 0, 1, 6, 700), 20);
    }

    private static void promise9_minute_0_to_1439() {
        Edge.refusedBeyond("Promise 9, a minute \"(0 to 1439 ..)\"", 0, 1439, Edge.BAD, (x, far) -> x.sell(0, 0, 1, 0, far));
        BarMeasure x = PLAIN.then("RULES of a minute", y -> {
            y.priceRule(4, 0, 1, 30);
            y.priceRule(4, 1439, 0, 40);
        }).lived();
        Due.is("Promise 9, minute 0", x.sell(0, 0, 1, 2, 0), 30);
        Due.is("Promise 9, minute 1", x.sell(0, 0, 1, 2, 1), 100);
        Due.is("Promise 9, minute 1438", x.sell(0, 0, 1, 2, 1438), 100);
        Due.is("Promise 9, minute 1439", x.sell(0, 0, 1, 2, 1439), 40);
    }

    private static void promise9_THE_BOOK_may_come_below_0() {
        BarMeasure x = PLAIN.lived();
        x.lend(0, 0, 9990);
        x.sell(0, 0, 1, 0, 0);
        Due.is("Promise 9, THE BOOK is above 0", x.has(0, 0), 4);
        Due.is("Promise 9, it is SOLD", x.sell(0, 0, 1, 0, 0), 100);
        Due.is("Promise 9, \"(which may come below 0)\"", x.has(0, 0), -2);
        x.sell(0, 0, 100, 0, 0);
        Due.is("Promise 9, further below 0", x.has(0, 0), -602);
    }

    private static void promise9_without_PARTS_nothing_goes_off() {
        BarMeasure x = PLAIN.lived();
        x.recipe(50);
        Due.is("Promise 9, no PARTS: it costs", x.sell(0, 1, 2, 0, 0), 100);
        Due.is("Promise 9, no PARTS: THE BOOK stays", x.has(0, 0), 10000);
        Due.is("Promise 9, no PARTS: no DRINKS", x.gap(1, 0, 0, 3), 0);
        Due.is("Promise 9, no PARTS: an act", x.count(3), 1);
    }

    // ---- Promise 10: "ml (1 to 10000) are SPILT (what = 0), GIVEN (1): THE BOOK. BAD .."

    private static void promise10_ml_1_to_10000() {
        for (int far : Edge.beyond(1, 10000)) {
            Edge.refused("Promise 10, \"ml (1 to 10000)\": " + far, Edge.FAR_BAD, x -> x.lose(0, 0, 0, far));
            Edge.refused("Promise 10, GIVEN, \"ml (1 to 10000)\": " + far, Edge.FAR_BAD, x -> x.lose(0, 0, 1, far));
        }
        BarMeasure x = PLAIN.lived();
        Due.is("Promise 10, 1 ml", x.lose(0, 0, 0, 1), 9999);
        Due.is("Promise 10, 10000 ml", x.lose(0, 0, 1, 10000), -1);
    }

    private static void promise10_SPILT_0_GIVEN_1() {
        Edge.refusedBeyond("Promise 10, \"SPILT (what = 0), GIVEN (1)\"", 0, 1, Edge.FAR_BAD, (x, far) -> x.lose(0, 0, far, 5));
        BarMeasure x = PLAIN.lived();
        x.lose(0, 0, 0, 3);
        x.lose(0, 0, 1, 4);
        Due.is("Promise 10, SPILT", x.all(0, 1), 3);
        Due.is("Promise 10, GIVEN", x.all(0, 2), 4);
    }

    private static void promise10_BARS_0_1() {
        Edge.refusedNoSuchBar("Promise 10", Edge.FAR_BAD, (x, bar) -> x.lose(bar, 0, 0, 1));
        Due.is("Promise 10, BAR 0", PLAIN.lived().lose(0, 0, 0, 1), 9999);
        Due.is("Promise 10, BAR 1", PLAIN.lived().lose(1, 0, 0, 1), -1);
    }

    private static void promise10_no_such_KIND() {
        Edge.refusedNoSuchKind("Promise 10", Edge.FAR_BAD, (x, kind) -> x.lose(1, kind, 1, 1));
    }

    private static void promise10_THE_BOOK_may_come_below_0() {
        BarMeasure x = PLAIN.lived();
        Due.is("Promise 10, nothing there", x.lose(0, 1, 0, 1), -1);
        Due.is("Promise 10, below 0", x.lose(0, 1, 1, 10000), -10001);
    }

    // ---- Promise 11: "WEIGHED: THE GAP. BAD ..; NO (it was in this NIGHT) .."

    private static void promise11_whole_bottles_0_to_50() {
        Edge.refusedBeyond("Promise 11, \"whole bottles (0 to 50)\"", 0, 50, Edge.FAR_BAD, (x, far) -> x.weigh(1, 2, far, 0));
        BarMeasure x = PLAIN.lived();
        Due.is("Promise 11, 0 bottles", x.weigh(0, 0, 0, 0), 10000);
        Due.is("Promise 11, 50 bottles", x.weigh(1, 0, 50, 0), -50000);
        Due.is("Promise 11, 0 bottles are FOUND", x.has(0, 0), 0);
        Due.is("Promise 11, 50 bottles are FOUND", x.has(1, 0), 50000);
    }

    private static void promise11_grams_of_the_open_one_0_to_5000() {
        Edge.refusedBeyond("Promise 11, \"grams of the open one (0 to 5000 ..)\"", 0, 5000, Edge.FAR_BAD, (x, far) -> x.weigh(1, 2, 1, far));
        BarMeasure x = PLAIN.lived();
        Due.is("Promise 11, 0 grams", x.weigh(0, 0, 3, 0), 7000);
        Due.is("Promise 11, 5000 grams", x.weigh(1, 0, 0, 5000), -5000);
    }

    private static void promise11_less_than_TARE_counts_as_TARE() {
        int[] grams = {0, 549, 550, 551};
        int[] found = {0, 0, 0, 1};
        for (int i = 0; i < grams.length; i++) {
            BarMeasure x = new BarMeasure();
            x.kind(550, 700, 100);
            Due.is("Promise 11, \"less than TARE counts as TARE\": " + grams[i], x.weigh(0, 0, 0, grams[i]), -found[i]);
            Due.is("Promise 11, FOUND of " + grams[i], x.has(0, 0), found[i]);
        }
    }

    private static void promise11_by_DENSE_cut() {
        int[] grams = {102, 103, 104, 205, 206, 207};
        int[] found = {99, 100, 100, 199, 200, 200};
        for (int i = 0; i < grams.length; i++) {
            BarMeasure x = new BarMeasure();
            x.kind(0, 700, 103);
            Due.is("Promise 11, \"by DENSE, cut\": " + grams[i], x.weigh(1, 0, 1, grams[i]), -700 - found[i]);
        }
    }

    private static void promise11_BARS_0_1() {
        Edge.refusedNoSuchBar("Promise 11", Edge.FAR_BAD, (x, bar) -> x.weigh(bar, 0, 1, 0));
    }

    private static void promise11_no_such_KIND() {
        Edge.refusedNoSuchKind("Promise 11", Edge.FAR_BAD, (x, kind) -> x.weigh(0, kind, 1, 0));
    }

    private static void promise11_NO_it_was_in_this_NIGHT() {
        Life weighed = PLAIN.then("a weighing", x -> x.weigh(0, 0, 9, 990));
        Edge.refused("Promise 11, \"NO\": the same again", weighed, Edge.FAR_NO, x -> x.weigh(0, 0, 9, 990));
        Edge.refused("Promise 11, \"NO\": another number", weighed, Edge.FAR_NO, x -> x.weigh(0, 0, 0, 0));
        Edge.refused("Promise 11, \"NO\": with another SCALE and POUR since", Life.EVENING, Edge.FAR_NO, x -> x.weigh(0, 0, 5, 480));
        Edge.refused("Promise 11, \"NO\": with 40 acts kept", Life.FULL, Edge.FAR_NO, x -> x.weigh(1, 3, 1, 1));
        Due.is("Promise 11, at the other BAR it was not", weighed.lived().weigh(1, 0, 1, 0), -1000);
        Due.is("Promise 11, another KIND was not", weighed.lived().weigh(0, 1, 1, 0), -1000);
        BarMeasure x = weighed.lived();
        x.night();
        Due.is("Promise 11, in the next NIGHT it was not", x.weigh(0, 0, 9, 980), 10);
    }

    private static void promise11_not_so_if_UNDONE() {
        BarMeasure x = PLAIN.then("a weighing", y -> y.weigh(0, 0, 1, 1)).lived();
        x.undo();
        Due.is("Promise 11, UNDONE it may be WEIGHED again", x.weigh(0, 0, 9, 995), 5);
        Due.is("Promise 11, and then no more", x.weigh(0, 0, 9, 995), Edge.FAR_NO);
    }

    private static void promise11_a_refused_one_is_none() {
        BarMeasure x = PLAIN.lived();
        x.weigh(0, 0, 51, 0);
        x.weigh(0, 0, 1, 5001);
        Due.is("Promise 11, refused it is not WEIGHED", x.gap(1, 0, 0, 0), Edge.FAR_NONE);
        Due.is("Promise 11, refused it may yet be", x.weigh(0, 0, 10, 1), -1);
    }

    private static void promise11_several_the_first_BAD_ahead_of_NO() {
        Life weighed = PLAIN.then("a weighing", x -> x.weigh(0, 0, 9, 990));
        Edge.refused("Promise 11, BAD ahead of NO: bottles", weighed, Edge.FAR_BAD, x -> x.weigh(0, 0, 51, 0));
        Edge.refused("Promise 11, BAD ahead of NO: grams", weighed, Edge.FAR_BAD, x -> x.weigh(0, 0, 0, -1));
    }

    // ---- Promise 12: "The latest act is UNDONE: its kind (0 RECEIVED, .. 6 WEIGHED). NO: none is kept."

    private static void promise12_NO_none_is_kept() {
        Edge.refused("Promise 12, \"NO\": nothing was done", Life.NEW, Edge.NO, x -> x.undo());
        Edge.refused("Promise 12, \"NO\": nothing in this NIGHT", PLAIN, Edge.NO, x -> x.undo());
        Life undone = PLAIN.then("an act UNDONE", x -> {
            x.receive(0, 1);
            x.undo();
        });
        Edge.refused("Promise 12, \"NO\": all is UNDONE", undone, Edge.NO, x -> x.undo());
        Life told = PLAIN.then("what is no act", x -> {
            x.keeper(0, 2);
            x.rule(0, 7);
            x.part(0, 1, 3);
            x.priceRule(1, 2, 3, 4);
            x.person(0, 1, 1);
            x.deal(1, 1);
            x.foretell(1, 1);
            x.kind(1, 100, 100);
            x.recipe(1);
            x.receive(0, 0);
        });
        Edge.refused("Promise 12, \"NO\": these are no acts", told, Edge.NO, x -> x.undo());
    }

    private static void promise12_its_kind_0_to_6() {
        Edge.Call[] acts = {
            x -> x.receive(0, 7), x -> x.issue(0, 0, 7), x -> x.lend(0, 0, 7), x -> x.sell(0, 0, 7, 0, 0),
            x -> x.lose(0, 0, 0, 7), x -> x.lose(0, 0, 1, 7), x -> x.weigh(0, 0, 7, 7)};
        for (int what = 0; what < acts.length; what++) {
            Edge.Call act = acts[what];
            BarMeasure x = PLAIN.lived();
            act.on(x);
            Due.is("Promise 12, \"its kind\"", x.undo(), what);
            if (what != 3) {
                Edge.changesNothing("Promise 12, " + what + " UNDONE is as if not done", PLAIN, what, y -> {
                    act.on(y);
                    return y.undo();
                });
            }
        }
    }

    /** A sale that is UNDONE leaves its PARTS shut for the NIGHT, and nothing else. */
    private static void promise12_SOLD_UNDONE() {
        Life twice = PLAIN.then("a sale UNDONE", x -> {
            x.sell(1, 0, 9, 2, 2);
            x.undo();
        });
        Edge.changesNothing("Promise 12, SOLD UNDONE is as if not done", twice, 3, x -> {
            x.sell(0, 0, 7, 0, 0);
            return x.undo();
        });
    }

    private static void promise12_40_are_kept() {
        BarMeasure x = PLAIN.lived();
        for (int i = 1; i <= 40; i++) {
            x.lose(0, 0, i % 2, i);
            Due.is("Promise 12, \"40 are kept\": count", x.count(3), i);
        }
        for (int i = 40; i >= 1; i--) {
            Due.is("Promise 12, \"40 are kept\": the latest first", x.undo(), 4 + i % 2);
            Due.is("Promise 12, \"40 are kept\": what is left", x.count(3), i - 1);
        }
        Due.is("Promise 12, all 40 are UNDONE", x.has(0, 0), 10000);
        Due.is("Promise 12, NO behind 40", x.undo(), -2);
    }

    private static void promise12_those_of_it_ahead_stay() {
        BarMeasure x = PLAIN.lived();
        for (int i = 1; i <= 42; i++) {
            x.lose(0, 0, 0, i);
        }
        Due.is("Promise 12, \"40 are kept\" of 42", x.count(3), 40);
        for (int i = 0; i < 40; i++) {
            Due.is("Promise 12, 40 of 42 are UNDONE", x.undo(), 4);
        }
        Due.is("Promise 12, \"those of it ahead stay\": undo", x.undo(), -2);
        Due.is("Promise 12, \"those of it ahead stay\": 1 and 2 ml", x.has(0, 0), 9997);
        Due.is("Promise 12, \"those of it ahead stay\": SPILT", x.all(0, 1), 3);
    }

    private static void promise12_each_kind_pushed_out_stays() {
        Edge.Call[] acts = {
            x -> x.receive(0, 7), x -> x.issue(0, 0, 7), x -> x.lend(0, 0, 7), x -> x.sell(0, 0, 7, 0, 0),
            x -> x.lose(0, 0, 0, 7), x -> x.lose(0, 0, 1, 7), x -> x.weigh(0, 0, 7, 7)};
        int[] store = {27, 13, 20, 20, 20, 20, 20};
        int[] books = {10000, 17000, 9993, 9958, 9993, 9993, 7007};
        for (int what = 0; what < acts.length; what++) {
            BarMeasure x = PLAIN.lived();
            acts[what].on(x);
            for (int i = 0; i < 40; i++) {
                x.lose(1, 1, 0, 1);
            }
            for (int i = 0; i < 40; i++) {
                x.undo();
            }
            Due.is("Promise 12, " + what + " is pushed out", x.undo(), -2);
            Due.is("Promise 12, " + what + " stays: THE STORE", x.has(2, 0), store[what]);
            Due.is("Promise 12, " + what + " stays: THE BOOK", x.has(0, 0), books[what]);
            Due.is("Promise 12, " + what + " stays: WEIGHED", x.gap(1, 0, 0, 0), what == 6 ? 2993 : Edge.FAR_NONE);
            Due.is("Promise 12, " + what + " stays: TAKINGS", x.takings(0), what == 3 ? 700 : 0);
        }
    }

    private static void promise12_a_refused_act_pushes_none_out() {
        BarMeasure x = PLAIN.lived();
        x.receive(0, 1);
        for (int i = 0; i < 39; i++) {
            x.lose(1, 1, 0, 1);
        }
        x.receive(0, 101);
        x.issue(0, 1, 1);
        x.lend(0, 1, 1);
        x.sell(0, 0, 1, 7, 0);
        x.lose(0, 0, 2, 1);
        x.weigh(0, 0, 51, 0);
        for (int i = 0; i < 39; i++) {
            Due.is("Promise 12, 39 ahead of the first", x.undo(), 4);
        }
        Due.is("Promise 12, the first is kept still", x.undo(), 0);
    }

    private static void promise12_UNDONE_makes_room_for_new_acts() {
        BarMeasure x = PLAIN.lived();
        for (int i = 0; i < 45; i++) {
            x.lose(0, 1, 0, 1);
        }
        for (int i = 0; i < 5; i++) {
            x.undo();
        }
        Due.is("Promise 12, 35 are kept", x.count(3), 35);
        for (int i = 0; i < 6; i++) {
            x.receive(0, 1);
        }
        Due.is("Promise 12, 40 are kept", x.count(3), 40);
        for (int i = 0; i < 40; i++) {
            Due.is("Promise 12, the new ones first", x.undo(), i < 6 ? 0 : 4);
        }
        Due.is("Promise 12, 6 of 40 are ahead", x.has(0, 1), -6);
    }

    private static void promise12_acts_of_this_NIGHT_alone() {
        BarMeasure x = PLAIN.lived();
        x.receive(0, 5);
        x.lose(0, 0, 0, 5);
        x.night();
        Due.is("Promise 12, \"of this NIGHT\": none is kept", x.count(3), 0);
        Due.is("Promise 12, \"of this NIGHT\": NO", x.undo(), -2);
        x.lose(0, 0, 1, 9);
        Due.is("Promise 12, \"of this NIGHT\": one", x.undo(), 5);
        Due.is("Promise 12, \"of this NIGHT\": no more", x.undo(), -2);
        Due.is("Promise 12, the NIGHT ahead stays", x.has(0, 0), 9995);
    }

    // ---- Promise 13: "A KEEPER of a BAR for this NIGHT, and on: what it was. BAD."

    private static void promise13_KEEPERS_0_to_2() {
        for (int far : Edge.beyond(0, 2)) {
            Edge.refused("Promise 13, \"KEEPERS 0 to 2\": " + far, Edge.BAD, x -> x.keeper(0, far));
            Edge.refused("Promise 13, BAR 1, \"KEEPERS 0 to 2\": " + far, Edge.BAD, x -> x.keeper(1, far));
        }
        BarMeasure x = PLAIN.lived();
        Due.is("Promise 13, \"0 at first\"", x.keeper(0, 2), 0);
        Due.is("Promise 13, \"what it was\": 2", x.keeper(0, 0), 2);
        Due.is("Promise 13, \"what it was\": 0", x.keeper(0, 1), 0);
        Due.is("Promise 13, \"what it was\": 1", x.keeper(0, 1), 1);
    }

    private static void promise13_BARS_0_1() {
        Edge.refusedNoSuchBar("Promise 13", Edge.BAD, (x, bar) -> x.keeper(bar, 1));
        BarMeasure x = PLAIN.lived();
        x.keeper(0, 1);
        x.keeper(1, 2);
        Due.is("Promise 13, BAR 0", x.gap(1, 0, 0, 4), 1);
        Due.is("Promise 13, BAR 1", x.gap(1, 1, 0, 4), 2);
    }

    private static void promise13_it_stays_till_another_one_is_told() {
        BarMeasure x = PLAIN.lived();
        x.keeper(0, 2);
        x.night();
        x.night();
        Due.is("Promise 13, \"it stays\": NIGHT 2", x.gap(2, 0, 0, 4), 2);
        Due.is("Promise 13, \"it stays\": NIGHT 3", x.keeper(0, 1), 2);
        Due.is("Promise 13, \"till another one is told\"", x.gap(3, 0, 0, 4), 1);
        Due.is("Promise 13, the NIGHTS ahead stay", x.gap(2, 0, 0, 4), 2);
        Due.is("Promise 13, those ahead of the first word too", x.gap(0, 0, 0, 4), 0);
        x.keeper(1, 1);
        x.night();
        Due.is("Promise 13, \"it stays\": BAR 0", x.gap(4, 0, 0, 4), 1);
        Due.is("Promise 13, \"it stays\": BAR 1", x.gap(4, 1, 0, 4), 1);
        Due.is("Promise 13, BAR 1 ahead of its word", x.gap(2, 1, 0, 4), 0);
    }

    private static void promise13_one_told_counts_for_all_of_that_NIGHT() {
        BarMeasure x = PLAIN.lived();
        x.sell(0, 0, 5, 0, 0);
        x.weigh(0, 0, 9, 900);
        Due.is("Promise 13, TOLD of KEEPER 0", x.leans(0, 0), 1);
        x.keeper(0, 2);
        Due.is("Promise 13, \"one told counts for all of that NIGHT\": not 0", x.leans(0, 0), 0);
        Due.is("Promise 13, \"one told counts for all of that NIGHT\": 2", x.leans(2, 0), 1);
    }

    // ---- Promise 14: "The NIGHT ends: its number. FULL: there are 20."

    private static void promise14_its_number_to_19_FULL_20() {
        BarMeasure x = new BarMeasure();
        for (int night = 1; night <= 19; night++) {
            Due.is("Promise 14, \"its number\"", x.night(), night);
        }
        Due.is("Promise 14, \"FULL: there are 20\"", x.night(), -3);
        Due.is("Promise 14, NIGHT 19 goes on", x.count(2), 19);
        Edge.refused("Promise 14, \"FULL: there are 20\"", Life.FULL, Edge.FULL, full -> full.night());
    }

    private static void promise14_DRINKS_begin_anew() {
        BarMeasure x = PLAIN.lived();
        x.sell(0, 0, 7, 0, 0);
        x.night();
        Due.is("Promise 14, \"DRINKS begin anew\"", x.gap(2, 0, 0, 3), 0);
        Due.is("Promise 14, those of the NIGHT ahead stay", x.gap(1, 0, 0, 3), 7);
    }

    private static void promise14_all_may_be_WEIGHED_again() {
        BarMeasure x = Life.FULL.lived();
        BarMeasure y = Life.EVENING.lived();
        Due.is("Promise 14, WEIGHED in the last NIGHT", x.weigh(0, 0, 1, 1), Edge.FAR_NO);
        y.night();
        for (int i = 0; i < 6; i++) {
            int book = y.has(i / 3, i % 3);
            int found = new int[] {700, 1000, 750}[i % 3];
            Due.is("Promise 14, \"all may be WEIGHED again\"", y.weigh(i / 3, i % 3, 1, 0), book - found);
        }
    }
}
