/** Boundary cases of promises 15 to 20: has, all, gap, over, leans, takings; a test for each sentence. */
public final class EdgesBooksTest {
    /** KIND 0: a gram is a ml, 1000 ml a bottle; RECIPE 0: 1 PART of it for 100; 20 bottles at each BAR. */
    private static final Life PLAIN = new Life("a plain bar", x -> {
        x.kind(0, 1000, 100);
        x.recipe(100);
        x.part(0, 0, 1);
        x.receive(0, 50);
        x.issue(0, 0, 20);
        x.issue(1, 0, 20);
    });

    public static void main(String[] args) throws ReflectiveOperationException {
        Edge.runAll(EdgesBooksTest.class);
    }

    /** So many DRINKS and then this GAP. */
    private static void weighWith(BarMeasure x, int bar, int drinks, int gap) {
        if (drinks > 0) {
            x.sell(bar, 0, drinks, 0, 0);
        }
        int found = x.has(bar, 0) - gap;
        Due.is("a GAP for the tests", x.weigh(bar, 0, found / 1000, found % 1000), gap);
    }

    // ---- Promise 15: "THE BOOK of a KIND at a BAR (0, 1); 2: bottles in THE STORE. BAD .."

    private static void promise15_a_BAR_0_1_and_2_THE_STORE() {
        Edge.refusedBeyond("Promise 15, \"a BAR (0, 1); 2: .. THE STORE\"", 0, 2, Edge.FAR_BAD, (x, bar) -> x.has(bar, 0));
        Life uneven = PLAIN.then("a loan", x -> x.lend(0, 0, 1));
        Edge.changesNothing("Promise 15, BAR 0", uneven, 19999, x -> x.has(0, 0));
        Edge.changesNothing("Promise 15, BAR 1", uneven, 20001, x -> x.has(1, 0));
        Edge.changesNothing("Promise 15, THE STORE", uneven, 10, x -> x.has(2, 0));
    }

    private static void promise15_no_such_KIND() {
        Edge.refusedNoSuchKind("Promise 15, BAR 0", Edge.FAR_BAD, (x, kind) -> x.has(0, kind));
        Edge.refusedNoSuchKind("Promise 15, THE STORE", Edge.FAR_BAD, (x, kind) -> x.has(2, kind));
        Due.is("Promise 15, the last KIND", Life.FULL.lived().has(1, 9), -10000 - 3 * 15 * 6);
    }

    private static void promise15_0_and_below() {
        BarMeasure x = PLAIN.lived();
        x.issue(0, 0, 10);
        Due.is("Promise 15, THE STORE is empty", x.has(2, 0), 0);
        x.lend(1, 0, 10000);
        x.lend(1, 0, 10000);
        Due.is("Promise 15, THE BOOK is 0", x.has(1, 0), 0);
        x.lose(1, 0, 0, 1);
        Due.is("Promise 15, THE BOOK is below 0", x.has(1, 0), -1);
    }

    // ---- Promise 16: "Of a KIND in all: ml that were 0 SOLD, 1 SPILT, 2 GIVEN, 3 lost by GAPS, 4 bottles RECEIVED. BAD .."

    private static void promise16_0_SOLD_to_4_RECEIVED() {
        Edge.refusedBeyond("Promise 16, \"0 SOLD, .. 4 bottles RECEIVED\"", 0, 4, Edge.FAR_BAD, (x, what) -> x.all(0, what));
        Life lost = PLAIN.then("a little of each", x -> {
            x.sell(0, 0, 2, 0, 0);
            x.lose(0, 0, 0, 3);
            x.lose(1, 0, 1, 4);
            x.weigh(0, 0, 19, 980);
        });
        int[] due = {12, 3, 4, 5, 50};
        for (int i = 0; i <= 4; i++) {
            int what = i;
            Edge.changesNothing("Promise 16, " + what, lost, due[what], x -> x.all(0, what));
        }
    }

    private static void promise16_no_such_KIND() {
        Edge.refusedNoSuchKind("Promise 16", Edge.FAR_BAD, (x, kind) -> x.all(kind, 0));
        Due.is("Promise 16, the last KIND", Life.FULL.lived().all(9, 2), 10000);
    }

    private static void promise16_lost_by_GAPS_below_0() {
        BarMeasure x = PLAIN.lived();
        weighWith(x, 0, 0, -7);
        Due.is("Promise 16, a GAP below 0", x.all(0, 3), -7);
        weighWith(x, 1, 0, 9);
        Due.is("Promise 16, GAPS of both BARS", x.all(0, 3), 2);
    }

    private static void promise16_UNDONE_is_not_counted() {
        BarMeasure x = PLAIN.lived();
        x.sell(0, 0, 2, 0, 0);
        x.lose(0, 0, 0, 3);
        x.lose(1, 0, 1, 4);
        weighWith(x, 0, 0, 5);
        x.receive(0, 1);
        for (int i = 0; i < 5; i++) {
            x.undo();
        }
        int[] due = {0, 0, 0, 0, 50};
        for (int what = 0; what <= 4; what++) {
            Due.is("Promise 16, UNDONE: " + what, x.all(0, what), due[what]);
        }
    }

    // ---- Promise 17: "Of a NIGHT (that ended, or this one), a BAR and a KIND: 0 THE GAP (NONE ..: not WEIGHED), .. 4 the KEEPER. BAD .."

    private static void promise17_a_NIGHT_that_ended_or_this_one() {
        Edge.refusedBeyond("Promise 17, no NIGHT", 0, 19, Edge.FAR_BAD, (x, far) -> x.gap(far, 0, 0, 3));
        for (int i = 0; i <= 4; i++) {
            int what = i;
            Edge.refused("Promise 17, the NIGHT to come, " + what, Edge.FAR_BAD, x -> x.gap(x.count(2) + 1, 0, 0, what));
        }
        BarMeasure x = PLAIN.lived();
        x.sell(0, 0, 1, 0, 0);
        for (int night = 1; night <= 19; night++) {
            Due.is("Promise 17, NIGHT " + night + " is to come", x.gap(night, 0, 0, 3), Edge.FAR_BAD);
            x.night();
            Due.is("Promise 17, NIGHT " + night + " is this one", x.gap(night, 0, 0, 3), 0);
            Due.is("Promise 17, NIGHT 0 ended", x.gap(0, 0, 0, 3), 1);
        }
        Due.is("Promise 17, there is no NIGHT 20", x.gap(20, 0, 0, 3), Edge.FAR_BAD);
    }

    private static void promise17_BARS_0_1() {
        Edge.refusedBeyond("Promise 17, \"BARS 0, 1\"", 0, 1, Edge.FAR_BAD, (x, far) -> x.gap(0, far, 0, 3));
        BarMeasure x = PLAIN.lived();
        x.sell(1, 0, 3, 0, 0);
        Due.is("Promise 17, BAR 0", x.gap(0, 0, 0, 3), 0);
        Due.is("Promise 17, BAR 1", x.gap(0, 1, 0, 3), 3);
    }

    private static void promise17_no_such_KIND() {
        Edge.refusedNoSuchKind("Promise 17", Edge.FAR_BAD, (x, kind) -> x.gap(0, 1, kind, 1));
    }

    private static void promise17_0_THE_GAP_to_4_the_KEEPER() {
        Edge.refusedBeyond("Promise 17, \"0 THE GAP .. 4 the KEEPER\"", 0, 4, Edge.FAR_BAD, (x, what) -> x.gap(0, 0, 0, what));
        Life weighed = PLAIN.then("a weighing", x -> {
            x.keeper(1, 2);
            weighWith(x, 1, 4, 7);
        });
        int[] due = {7, 6, 1, 4, 2};
        for (int i = 0; i <= 4; i++) {
            int what = i;
            Edge.changesNothing("Promise 17, " + what, weighed, due[what], x -> x.gap(0, 1, 0, what));
        }
    }

    private static void promise17_NONE_not_WEIGHED() {
        Edge.changesNothing("Promise 17, \"NONE ..: not WEIGHED\"", PLAIN, Edge.FAR_NONE, x -> x.gap(0, 0, 0, 0));
        BarMeasure x = PLAIN.lived();
        weighWith(x, 0, 0, 0);
        Due.is("Promise 17, a GAP of 0 is no NONE", x.gap(0, 0, 0, 0), 0);
        Due.is("Promise 17, NONE at the other BAR", x.gap(0, 1, 0, 0), Edge.FAR_NONE);
        x.kind(0, 500, 100);
        Due.is("Promise 17, NONE of the other KIND", x.gap(0, 0, 1, 0), Edge.FAR_NONE);
        x.undo();
        Due.is("Promise 17, NONE when it is UNDONE", x.gap(0, 0, 0, 0), Edge.FAR_NONE);
        weighWith(x, 0, 0, 8);
        x.night();
        Due.is("Promise 17, THE GAP of the NIGHT that ended", x.gap(0, 0, 0, 0), 8);
        Due.is("Promise 17, NONE in the new NIGHT", x.gap(1, 0, 0, 0), Edge.FAR_NONE);
    }

    private static void promise17_SPAN_SCALE_by_DENSE_rounded_up() {
        int[] dense = {50, 99, 100, 101, 150, 150, 150};
        int[] scale = {1, 1, 1, 1, 1, 3, 4};
        int[] due = {2, 2, 1, 1, 1, 2, 3};
        for (int i = 0; i < dense.length; i++) {
            BarMeasure x = new BarMeasure();
            x.kind(0, 1000, dense[i]);
            x.rule(0, scale[i]);
            String of = "SCALE " + scale[i] + " by DENSE " + dense[i];
            Due.is("Promise 17, \"rounded up\": " + of, x.gap(0, 0, 0, 1), due[i]);
            x.weigh(0, 0, 0, 0);
            Due.is("Promise 17, \"rounded up\", WEIGHED: " + of, x.gap(0, 0, 0, 1), due[i]);
        }
    }

    private static void promise17_SPAN_without_DRINKS() {
        BarMeasure x = PLAIN.lived();
        x.rule(1, 20);
        Due.is("Promise 17, SPAN of no DRINKS is SCALE alone", x.gap(0, 0, 0, 1), 2);
        x.rule(0, 0);
        Due.is("Promise 17, SPAN of no DRINKS, SCALE 0", x.gap(0, 0, 0, 1), 0);
        x.sell(0, 0, 1, 0, 0);
        Due.is("Promise 17, SPAN of one DRINK", x.gap(0, 0, 0, 1), 20);
        Due.is("Promise 17, SPAN at the other BAR", x.gap(0, 1, 0, 1), 0);
    }

    private static void promise17_SPAN_as_it_is_when_WEIGHED() {
        BarMeasure x = PLAIN.lived();
        weighWith(x, 0, 4, 0);
        x.rule(0, 9);
        x.rule(1, 9);
        x.sell(0, 0, 5, 0, 0);
        Due.is("Promise 17, \"as they are when it is WEIGHED\"", x.gap(0, 0, 0, 1), 6);
        x.night();
        x.rule(0, 11);
        Due.is("Promise 17, \"as they are when it is WEIGHED\", behind the NIGHT", x.gap(0, 0, 0, 1), 6);
    }

    private static void promise17_SPAN_of_one_not_WEIGHED_as_now() {
        BarMeasure x = PLAIN.lived();
        x.sell(0, 0, 4, 0, 0);
        Due.is("Promise 17, \"(of one not WEIGHED: as they are now)\"", x.gap(0, 0, 0, 1), 6);
        x.rule(0, 9);
        Due.is("Promise 17, as now: SCALE", x.gap(0, 0, 0, 1), 13);
        x.rule(1, 3);
        Due.is("Promise 17, as now: POUR", x.gap(0, 0, 0, 1), 21);
        x.sell(0, 0, 1, 0, 0);
        Due.is("Promise 17, as now: DRINKS", x.gap(0, 0, 0, 1), 24);
        x.undo();
        Due.is("Promise 17, as now: DRINKS UNDONE", x.gap(0, 0, 0, 1), 21);
        weighWith(x, 0, 0, 0);
        x.rule(0, 1);
        Due.is("Promise 17, WEIGHED it stays", x.gap(0, 0, 0, 1), 21);
        x.undo();
        Due.is("Promise 17, as now: the weighing is UNDONE", x.gap(0, 0, 0, 1), 13);
        x.night();
        x.rule(0, 2);
        Due.is("Promise 17, as now: of a NIGHT that ended", x.gap(0, 0, 0, 1), 14);
    }

    private static void promise17_TOLD_if_its_size_is_above_SPAN() {
        int[] gaps = {-7, -6, -5, 0, 5, 6, 7};
        int[] told = {1, 0, 0, 0, 0, 0, 1};
        for (int i = 0; i < gaps.length; i++) {
            BarMeasure x = PLAIN.lived();
            weighWith(x, 0, 4, gaps[i]);
            Due.is("Promise 17, \"above SPAN\": " + gaps[i] + " by 6", x.gap(0, 0, 0, 2), told[i]);
        }
    }

    private static void promise17_TOLD_by_a_SPAN_of_0() {
        for (int gap = -1; gap <= 1; gap++) {
            BarMeasure x = PLAIN.lived();
            x.rule(0, 0);
            x.rule(1, 0);
            weighWith(x, 1, 3, gap);
            Due.is("Promise 17, \"above SPAN\": " + gap + " by 0", x.gap(0, 1, 0, 2), gap == 0 ? 0 : 1);
        }
    }

    private static void promise17_TOLD_stays_as_it_was_when_WEIGHED() {
        BarMeasure x = PLAIN.lived();
        weighWith(x, 0, 4, 7);
        weighWith(x, 1, 4, 6);
        x.rule(0, 50);
        Due.is("Promise 17, TOLD stays TOLD", x.gap(0, 0, 0, 2), 1);
        x.rule(0, 0);
        Due.is("Promise 17, not TOLD stays so", x.gap(0, 1, 0, 2), 0);
        x.undo();
        Due.is("Promise 17, not WEIGHED it is not TOLD", x.gap(0, 1, 0, 2), 0);
    }

    // ---- Promise 18: "OVER: above (part = 0), below (1). NONE ..; BAD .."

    private static void promise18_KEEPERS_0_to_2() {
        Edge.refusedBeyond("Promise 18, \"KEEPERS 0 to 2\"", 0, 2, Edge.FAR_BAD, (x, keeper) -> x.over(keeper, 0, 0));
        for (int keeper = 0; keeper <= 2; keeper++) {
            BarMeasure x = PLAIN.lived();
            x.keeper(0, keeper);
            for (int night = 0; night < 3; night++) {
                weighWith(x, 0, 1, 4);
                x.night();
            }
            for (int asked = 0; asked <= 2; asked++) {
                Due.is("Promise 18, KEEPER " + asked, x.over(asked, 0, 0), asked == keeper ? 4 : Edge.FAR_NONE);
            }
        }
    }

    private static void promise18_no_such_KIND() {
        Edge.refusedNoSuchKind("Promise 18", Edge.FAR_BAD, (x, kind) -> x.over(0, kind, 0));
    }

    private static void promise18_above_0_below_1() {
        Edge.refusedBeyond("Promise 18, \"above (part = 0), below (1)\"", 0, 1, Edge.FAR_BAD, (x, part) -> x.over(0, 0, part));
        Life three = PLAIN.then("three GAPS", x -> {
            weighWith(x, 0, 2, 3);
            weighWith(x, 1, 1, 1);
            x.night();
            weighWith(x, 0, 2, 2);
        });
        Edge.changesNothing("Promise 18, above", three, 11, x -> x.over(0, 0, 0));
        Edge.changesNothing("Promise 18, below", three, 9, x -> x.over(0, 0, 1));
    }

    private static void promise18_none_if_these_are_fewer_than_3() {
        BarMeasure x = PLAIN.lived();
        Due.is("Promise 18, \"fewer than 3\": 0", x.over(0, 0, 0), Edge.FAR_NONE);
        weighWith(x, 0, 5, 10);
        Due.is("Promise 18, \"fewer than 3\": 1", x.over(0, 0, 0), Edge.FAR_NONE);
        weighWith(x, 1, 5, 10);
        Due.is("Promise 18, \"fewer than 3\": 2", x.over(0, 0, 0), Edge.FAR_NONE);
        Due.is("Promise 18, \"fewer than 3\": 2, below", x.over(0, 0, 1), Edge.FAR_NONE);
        x.night();
        weighWith(x, 0, 5, 10);
        Due.is("Promise 18, 3 are not fewer", x.over(0, 0, 0), 2);
        Due.is("Promise 18, 3 are not fewer, below", x.over(0, 0, 1), 1);
        x.undo();
        Due.is("Promise 18, \"fewer than 3\": one is UNDONE", x.over(0, 0, 0), Edge.FAR_NONE);
    }

    private static void promise18_WEIGHED_and_had_DRINKS() {
        BarMeasure x = PLAIN.lived();
        weighWith(x, 0, 1, 3);
        weighWith(x, 1, 0, 8);
        x.night();
        weighWith(x, 0, 1, 3);
        x.sell(1, 0, 1, 0, 0);
        x.night();
        Due.is("Promise 18, not WEIGHED or no DRINKS: 2 are left", x.over(0, 0, 0), Edge.FAR_NONE);
        weighWith(x, 0, 1, 0);
        Due.is("Promise 18, a GAP of 0 counts", x.over(0, 0, 0), 2);
        weighWith(x, 1, 0, 4);
        Due.is("Promise 18, no DRINKS: it does not count", x.over(0, 0, 1), 1);
        x.sell(1, 0, 1, 0, 0);
        Due.is("Promise 18, a DRINK behind the weighing: 10 by 4", x.over(0, 0, 0), 5);
        Due.is("Promise 18, a DRINK behind the weighing: below", x.over(0, 0, 1), 2);
    }

    private static void promise18_a_fraction_of_0() {
        BarMeasure x = PLAIN.lived();
        weighWith(x, 0, 5, 10);
        weighWith(x, 1, 5, -10);
        x.night();
        weighWith(x, 0, 7, 0);
        Due.is("Promise 18, \"in lowest terms\": 0", x.over(0, 0, 0), 0);
        Due.is("Promise 18, \"in lowest terms\": 0 by 1", x.over(0, 0, 1), 1);
    }

    private static void promise18_below_above_0() {
        BarMeasure x = PLAIN.lived();
        weighWith(x, 0, 2, -3);
        weighWith(x, 1, 2, -3);
        x.night();
        weighWith(x, 0, 4, -6);
        Due.is("Promise 18, \"below above 0\": the sign is above", x.over(0, 0, 0), -3);
        Due.is("Promise 18, \"below above 0\"", x.over(0, 0, 1), 2);
    }

    private static void promise18_the_greatest_numbers() {
        BarMeasure x = new BarMeasure();
        x.kind(0, 2000, 50);
        x.recipe(0);
        x.part(0, 0, 20);
        for (int i = 0; i < 4; i++) {
            for (int sale = 0; sale < 100; sale++) {
                x.sell(i % 2, 0, 100, 0, 0);
            }
            x.weigh(i % 2, 0, 50, 5000);
            if (i == 1) {
                x.night();
            }
        }
        // GAPS of -1310000 twice and -1200000 twice, of 10000 DRINKS each: -5020000 by 40000.
        Due.is("Promise 18, greatest numbers", x.over(0, 0, 0), -251);
        Due.is("Promise 18, greatest numbers, below", x.over(0, 0, 1), 2);
    }

    private static void promise18_NONE_and_BAD() {
        Edge.changesNothing("Promise 18, NONE changes nothing", Life.EVENING, Edge.FAR_NONE, x -> x.over(2, 0, 0));
        Edge.changesNothing("Promise 18, BAD, though there is NONE", PLAIN, Edge.FAR_BAD, x -> x.over(0, 0, 2));
    }

    // ---- Promise 19: "LEANS. BAD."

    private static void promise19_KEEPERS_0_to_2() {
        Edge.refusedBeyond("Promise 19, \"KEEPERS 0 to 2\"", 0, 2, Edge.BAD, (x, keeper) -> x.leans(keeper, 0));
        for (int keeper = 0; keeper <= 2; keeper++) {
            BarMeasure x = PLAIN.lived();
            x.keeper(1, keeper);
            x.keeper(0, (keeper + 1) % 3);
            weighWith(x, 1, 1, 4);
            for (int asked = 0; asked <= 2; asked++) {
                Due.is("Promise 19, KEEPER " + asked, x.leans(asked, 0), asked == keeper ? 1 : 0);
            }
        }
    }

    private static void promise19_no_such_KIND() {
        Edge.refusedNoSuchKind("Promise 19", Edge.BAD, (x, kind) -> x.leans(0, kind));
        Edge.changesNothing("Promise 19, the last KIND", Life.FULL, 0, x -> x.leans(2, 9));
    }

    private static void promise19_how_many_of_these_GAPS_were_TOLD() {
        BarMeasure x = PLAIN.lived();
        Due.is("Promise 19, nothing WEIGHED", x.leans(0, 0), 0);
        weighWith(x, 0, 1, 3);
        Due.is("Promise 19, 3 is not above 3", x.leans(0, 0), 0);
        weighWith(x, 1, 1, 4);
        Due.is("Promise 19, 4 is above 3, of fewer than 3", x.leans(0, 0), 1);
        x.night();
        weighWith(x, 0, 1, -4);
        Due.is("Promise 19, -4 is above 3 in size", x.leans(0, 0), 2);
        weighWith(x, 1, 0, 99);
        Due.is("Promise 19, \"of these\": no DRINKS, not counted", x.leans(0, 0), 2);
        x.undo();
        x.undo();
        Due.is("Promise 19, UNDONE", x.leans(0, 0), 1);
    }

    private static void promise19_TOLD_as_it_was_when_WEIGHED() {
        BarMeasure x = PLAIN.lived();
        weighWith(x, 0, 1, 4);
        weighWith(x, 1, 1, 3);
        x.rule(0, 50);
        Due.is("Promise 19, TOLD stays TOLD by a greater SCALE", x.leans(0, 0), 1);
        x.rule(0, 0);
        x.rule(1, 0);
        Due.is("Promise 19, not TOLD stays so by a SPAN of 0", x.leans(0, 0), 1);
        x.night();
        Due.is("Promise 19, and behind the NIGHT", x.leans(0, 0), 1);
    }

    private static void promise19_all_40_of_20_NIGHTS() {
        BarMeasure x = PLAIN.lived();
        for (int night = 0; night < 20; night++) {
            weighWith(x, 0, 1, 4);
            weighWith(x, 1, 1, -4);
            x.night();
        }
        Due.is("Promise 19, all of 20 NIGHTS", x.leans(0, 0), 40);
    }

    // ---- Promise 20: "TAKINGS of a BAR in all. BAD."

    private static void promise20_BARS_0_1() {
        Edge.refusedBeyond("Promise 20, \"BARS 0, 1\"", 0, 1, Edge.BAD, (x, bar) -> x.takings(bar));
        Life sold = PLAIN.then("sales", x -> {
            x.sell(0, 0, 1, 0, 0);
            x.night();
            x.sell(1, 0, 2, 0, 0);
            x.sell(0, 0, 4, 0, 0);
        });
        Edge.changesNothing("Promise 20, BAR 0 in all NIGHTS", sold, 500, x -> x.takings(0));
        Edge.changesNothing("Promise 20, BAR 1", sold, 200, x -> x.takings(1));
    }

    private static void promise20_by_PRICE_then() {
        BarMeasure x = PLAIN.lived();
        x.sell(0, 0, 1, 0, 0);
        x.priceRule(127, 0, 0, 200);
        x.rule(4, 300);
        Due.is("Promise 20, \"by PRICE then\"", x.takings(0), 100);
        x.sell(0, 0, 1, 0, 0);
        Due.is("Promise 20, by the new PRICE", x.takings(0), 400);
        x.rule(4, 0);
        x.undo();
        Due.is("Promise 20, UNDONE by PRICE then", x.takings(0), 100);
        x.undo();
        Due.is("Promise 20, all is UNDONE", x.takings(0), 0);
    }

    private static void promise20_the_greatest_TAKINGS_of_512_calls() {
        BarMeasure x = new BarMeasure();
        x.recipe(10000);
        x.priceRule(127, 0, 0, 200);
        for (int i = 0; i < 509; i++) {
            Due.is("Promise 20, the greatest sale", x.sell(1, 0, 100, 6, 1439), 2000000);
        }
        Due.is("Promise 20, the 512th call", x.takings(1), 1018000000);
    }
}
