/** Boundary cases of promises 1 to 5: a new object, kind, recipe, part, rule; a test for each sentence. */
public final class EdgesKindsTest {
    private static final int[] MOST_OF_SETTING = {50, 20, 100, 100, 10000, 50, 10};
    private static final String[] SETTINGS = {
        "SCALE (0)", "POUR (1)", "WASTE (2)", "LACK (3)", "FLOOR (4)", "FOAM 0 (5)", "FOAM 1 (6)"};

    /** One KIND of which a gram is a ml, and one RECIPE for 300 cents of 1 PART. */
    private static final Life ONE_OF_EACH = new Life("one KIND, one RECIPE", x -> {
        x.kind(0, 1000, 100);
        x.recipe(300);
        x.part(0, 0, 1);
    });

    public static void main(String[] args) throws ReflectiveOperationException {
        Edge.runAll(EdgesKindsTest.class);
    }

    // ---- Promise 1: "As told; NIGHT 0."

    private static void promise1_NIGHT_0() {
        BarMeasure x = ONE_OF_EACH.lived();
        Due.is("Promise 1, \"NIGHT 0\": count", x.count(2), 0);
        Due.is("Promise 1, \"NIGHT 0\": it has books", x.gap(0, 0, 0, 3), 0);
        Due.is("Promise 1, \"NIGHT 0\": NIGHT 1 has not begun", x.gap(1, 0, 0, 3), Edge.FAR_BAD);
        Due.is("Promise 1, \"NIGHT 0\": the next is 1", x.night(), 1);
    }

    private static void promise1_nothing_is_there_yet() {
        BarMeasure x = new BarMeasure();
        for (int what = 0; what <= 6; what++) {
            Due.is("Promise 1, nothing told: count " + what, x.count(what), 0);
        }
        Due.is("Promise 1, no KIND 0: part", x.part(0, 0, 1), -1);
        Due.is("Promise 1, no KIND 0: has", x.has(2, 0), Edge.FAR_BAD);
        Due.is("Promise 1, no KIND 0: all", x.all(0, 4), Edge.FAR_BAD);
        Due.is("Promise 1, no RECIPE 0: price", x.price(0, 0, 0), -1);
        Due.is("Promise 1, no RECIPE 0: sell", x.sell(0, 0, 1, 0, 0), -1);
        Due.is("Promise 1, nothing SOLD: TAKINGS 0", x.takings(0), 0);
        Due.is("Promise 1, nothing SOLD: TAKINGS 1", x.takings(1), 0);
        Due.is("Promise 1, no act is kept", x.undo(), -2);
        Due.is("Promise 1, nothing is FORETOLD", x.press(-1), -2);
        Due.is("Promise 1, nothing to forget", x.forget(), 0);
        Due.is("Promise 1, no DEALS", x.buy(1, 0), -2);
        Due.is("Promise 1, no RECIPES can be made", x.fewest(1), -4);
    }

    private static void promise1_of_a_KIND_there_is_nothing_at_first() {
        BarMeasure x = ONE_OF_EACH.lived();
        for (int bar = 0; bar <= 2; bar++) {
            Due.is("Promise 1, nothing RECEIVED: has at " + bar, x.has(bar, 0), 0);
        }
        for (int what = 0; what <= 4; what++) {
            Due.is("Promise 1, nothing happened: all " + what, x.all(0, what), 0);
        }
        for (int bar = 0; bar <= 1; bar++) {
            Due.is("Promise 1, not WEIGHED at " + bar, x.gap(0, bar, 0, 0), Edge.FAR_NONE);
            Due.is("Promise 1, not TOLD at " + bar, x.gap(0, bar, 0, 2), 0);
            Due.is("Promise 1, no DRINKS at " + bar, x.gap(0, bar, 0, 3), 0);
        }
        for (int keeper = 0; keeper <= 2; keeper++) {
            Due.is("Promise 1, no OVER of KEEPER " + keeper, x.over(keeper, 0, 0), Edge.FAR_NONE);
            Due.is("Promise 1, no LEANS of KEEPER " + keeper, x.leans(keeper, 0), 0);
        }
    }

    private static void promise1_PARTS_all_0_at_first() {
        BarMeasure x = new BarMeasure();
        for (int i = 0; i < 12; i++) {
            x.kind(0, 100, 100);
            x.recipe(1);
        }
        for (int i = 0; i < 120; i++) {
            Due.is("Promise 1, \"all 0 at first\": RECIPE " + i / 10 + ", KIND " + i % 10, x.part(i / 10, i % 10, 20), 0);
        }
    }

    private static void promise1_SCALE_2_at_first() {
        Due.is("Promise 1, \"2 at first\": what it was", new BarMeasure().rule(0, 9), 2);
        Due.is("Promise 1, \"2 at first\": SPAN", ONE_OF_EACH.lived().gap(0, 0, 0, 1), 2);
    }

    private static void promise1_POUR_1_at_first() {
        Due.is("Promise 1, \"1 at first\": POUR was", new BarMeasure().rule(1, 9), 1);
        BarMeasure x = ONE_OF_EACH.lived();
        x.sell(0, 0, 10, 0, 0);
        Due.is("Promise 1, \"1 at first\": SPAN of 10 DRINKS", x.gap(0, 0, 0, 1), 12);
    }

    private static void promise1_WASTE_LACK_1_at_first() {
        Due.is("Promise 1, \"1 at first\": WASTE was", new BarMeasure().rule(2, 9), 1);
        Due.is("Promise 1, \"1 at first\": LACK was", new BarMeasure().rule(3, 9), 1);
        BarMeasure x = new BarMeasure();
        x.foretell(100, 1);
        Due.is("Promise 1, \"1 at first\": COST of WASTE", x.press(107), 7);
        Due.is("Promise 1, \"1 at first\": COST of LACK", x.press(95), 5);
    }

    private static void promise1_FLOOR_0_at_first() {
        Due.is("Promise 1, \"0 at first\": FLOOR was", new BarMeasure().rule(4, 9), 0);
        BarMeasure x = new BarMeasure();
        x.recipe(0);
        Due.is("Promise 1, \"0 at first\": PRICE may be 0", x.price(0, 0, 0), 0);
    }

    private static void promise1_FOAM_0_5_FOAM_1_2_at_first() {
        Due.is("Promise 1, \"5 at first\": FOAM 0 was", new BarMeasure().rule(5, 9), 5);
        Due.is("Promise 1, \"2 at first\": FOAM 1 was", new BarMeasure().rule(6, 9), 2);
        Due.is("Promise 1, \"5 at first\": PINTS at HEAT 4", new BarMeasure().keg(50000, 4), 95);
        Due.is("Promise 1, \"2 at first\": PINTS at HEAT 5", new BarMeasure().keg(50000, 5), 93);
    }

    private static void promise1_KEEPERS_0_at_first() {
        BarMeasure x = ONE_OF_EACH.lived();
        Due.is("Promise 1, KEEPER \"0 at first\": BAR 0", x.gap(0, 0, 0, 4), 0);
        Due.is("Promise 1, KEEPER \"0 at first\": BAR 1", x.gap(0, 1, 0, 4), 0);
        Due.is("Promise 1, KEEPER \"0 at first\": what it was at BAR 0", x.keeper(0, 1), 0);
        Due.is("Promise 1, KEEPER \"0 at first\": what it was at BAR 1", x.keeper(1, 1), 0);
    }

    private static void promise1_POINTS_minutes_0_0_at_first() {
        BarMeasure x = new BarMeasure();
        for (int person = 0; person <= 5; person++) {
            Due.is("Promise 1, \"0, 0 at first\": PERSON " + person, x.tips(100, person), -2);
        }
        x.person(2, 1, 1);
        for (int person = 0; person <= 5; person++) {
            Due.is("Promise 1, \"0, 0 at first\": beside one, PERSON " + person, x.tips(100, person), person == 2 ? 100 : 0);
        }
    }

    // ---- Promise 2: "A KIND: its number. BAD; FULL: 10."

    private static void promise2_TARE_0_to_2000_grams() {
        Edge.refusedBeyond("Promise 2, \"TARE (0 to 2000 grams)\"", 0, 2000, Edge.BAD, (x, far) -> x.kind(far, 500, 100));
        BarMeasure x = new BarMeasure();
        Due.is("Promise 2, TARE 0", x.kind(0, 500, 100), 0);
        Due.is("Promise 2, TARE 2000", x.kind(2000, 500, 100), 1);
        Due.is("Promise 2, TARE 0: a gram is above it", x.weigh(0, 0, 0, 1), -1);
        Due.is("Promise 2, TARE 2000: 2000 grams are nothing", x.weigh(0, 1, 0, 2000), 0);
        Due.is("Promise 2, TARE 2000: 2001 grams are 1 ml", x.weigh(1, 1, 0, 2001), -1);
    }

    private static void promise2_SIZE_100_to_2000_ml() {
        Edge.refusedBeyond("Promise 2, \"SIZE (100 to 2000 ml)\"", 100, 2000, Edge.BAD, (x, far) -> x.kind(300, far, 100));
        Edge.refused("Promise 2, \"SIZE (100 to 2000 ml)\": 0", Edge.BAD, x -> x.kind(300, 0, 100));
        BarMeasure x = new BarMeasure();
        Due.is("Promise 2, SIZE 100", x.kind(300, 100, 100), 0);
        Due.is("Promise 2, SIZE 2000", x.kind(300, 2000, 100), 1);
        x.receive(0, 1);
        x.receive(1, 1);
        Due.is("Promise 2, SIZE 100: a bottle", x.issue(0, 0, 1), 100);
        Due.is("Promise 2, SIZE 2000: a bottle", x.issue(0, 1, 1), 2000);
    }

    private static void promise2_DENSE_50_to_150_grams() {
        Edge.refusedBeyond("Promise 2, \"DENSE (50 to 150 grams for 100 ml)\"", 50, 150, Edge.BAD, (x, far) -> x.kind(300, 500, far));
        Edge.refused("Promise 2, \"DENSE (50 to 150 grams for 100 ml)\": 0", Edge.BAD, x -> x.kind(300, 500, 0));
        BarMeasure x = new BarMeasure();
        Due.is("Promise 2, DENSE 50", x.kind(0, 500, 50), 0);
        Due.is("Promise 2, DENSE 150", x.kind(0, 500, 150), 1);
        Due.is("Promise 2, DENSE 50: 300 grams", x.weigh(0, 0, 0, 300), -600);
        Due.is("Promise 2, DENSE 150: 300 grams", x.weigh(0, 1, 0, 300), -200);
    }

    private static void promise2_KINDS_0_to_9_as_they_come_FULL_10() {
        BarMeasure x = new BarMeasure();
        for (int i = 0; i <= 9; i++) {
            Due.is("Promise 2, \"KINDS 0 to 9 as they come\"", x.kind(i, 100 + i, 100), i);
            Due.is("Promise 2, \"KINDS 0 to 9 as they come\": count", x.count(0), i + 1);
        }
        Due.is("Promise 2, \"FULL: 10\"", x.kind(10, 110, 100), -3);
        x.receive(9, 1);
        Due.is("Promise 2, KIND 9 is as it was told", x.issue(0, 9, 1), 109);
        Edge.refused("Promise 2, \"FULL: 10\"", Life.FULL, Edge.FULL, full -> full.kind(300, 500, 100));
        Edge.refused("Promise 2, the same KIND again", Life.FULL, Edge.FULL, full -> full.kind(300, 500, 80));
    }

    private static void promise2_several_the_first_BAD_ahead_of_FULL() {
        Edge.refused("Promise 2, BAD ahead of FULL: TARE", Life.FULL, Edge.BAD, x -> x.kind(2001, 500, 100));
        Edge.refused("Promise 2, BAD ahead of FULL: SIZE", Life.FULL, Edge.BAD, x -> x.kind(300, 99, 100));
        Edge.refused("Promise 2, BAD ahead of FULL: DENSE", Life.FULL, Edge.BAD, x -> x.kind(300, 500, 151));
    }

    // ---- Promise 3: "A RECIPE: its number. BAD; FULL: 12."

    private static void promise3_PRICE_0_to_10000_cents() {
        Edge.refusedBeyond("Promise 3, \"a PRICE (0 to 10000 cents)\"", 0, 10000, Edge.BAD, (x, far) -> x.recipe(far));
        BarMeasure x = new BarMeasure();
        Due.is("Promise 3, PRICE 0", x.recipe(0), 0);
        Due.is("Promise 3, PRICE 10000", x.recipe(10000), 1);
        Due.is("Promise 3, PRICE 0 is asked", x.price(0, 6, 1439), 0);
        Due.is("Promise 3, PRICE 10000 is asked", x.price(1, 6, 1439), 10000);
    }

    private static void promise3_RECIPES_0_to_11_as_they_come_FULL_12() {
        BarMeasure x = new BarMeasure();
        for (int i = 0; i <= 11; i++) {
            Due.is("Promise 3, \"RECIPES 0 to 11 as they come\"", x.recipe(50 + i), i);
            Due.is("Promise 3, \"RECIPES 0 to 11 as they come\": count", x.count(1), i + 1);
        }
        Due.is("Promise 3, \"FULL: 12\"", x.recipe(62), -3);
        Due.is("Promise 3, RECIPE 11 is as it was told", x.price(11, 0, 0), 61);
        Edge.refused("Promise 3, \"FULL: 12\"", Life.FULL, Edge.FULL, full -> full.recipe(500));
        Edge.refused("Promise 3, \"FULL: 12\": PRICE 0", Life.FULL, Edge.FULL, full -> full.recipe(0));
    }

    private static void promise3_several_the_first_BAD_ahead_of_FULL() {
        Edge.refused("Promise 3, BAD ahead of FULL: -1", Life.FULL, Edge.BAD, x -> x.recipe(-1));
        Edge.refused("Promise 3, BAD ahead of FULL: 10001", Life.FULL, Edge.BAD, x -> x.recipe(10001));
    }

    // ---- Promise 4: "PARTS of a KIND in a RECIPE: what they were. BAD; NO: it was SOLD in this NIGHT (also if that is UNDONE)."

    private static void promise4_numbers_of_PARTS_0_to_20() {
        Edge.refusedBeyond("Promise 4, \"PARTS (.. 0 to 20 ..)\"", 0, 20, Edge.BAD, (x, far) -> x.part(2, 0, far));
        BarMeasure x = ONE_OF_EACH.lived();
        x.recipe(5);
        x.part(1, 0, 7);
        Due.is("Promise 4, 20 PARTS", x.part(0, 0, 20), 1);
        Due.is("Promise 4, 0 PARTS", x.part(1, 0, 0), 7);
        x.sell(0, 0, 1, 0, 0);
        Due.is("Promise 4, 20 PARTS are 120 ml", x.has(0, 0), -120);
        x.sell(0, 1, 1, 0, 0);
        Due.is("Promise 4, 0 PARTS are none", x.has(0, 0), -120);
        Due.is("Promise 4, 0 PARTS are no DRINK", x.gap(0, 0, 0, 3), 1);
    }

    private static void promise4_no_such_RECIPE() {
        Edge.refusedNoSuchRecipe("Promise 4", Edge.BAD, (x, recipe) -> x.part(recipe, 0, 1));
        Due.is("Promise 4, the last RECIPE", Life.FULL.lived().part(11, 5, 1), 9);
    }

    private static void promise4_no_such_KIND() {
        Edge.refusedNoSuchKind("Promise 4", Edge.BAD, (x, kind) -> x.part(2, kind, 1));
        Due.is("Promise 4, the last KIND", Life.FULL.lived().part(9, 9, 1), 10);
    }

    private static void promise4_what_they_were() {
        BarMeasure x = ONE_OF_EACH.lived();
        Due.is("Promise 4, \"what they were\": 1", x.part(0, 0, 20), 1);
        Due.is("Promise 4, \"what they were\": 20", x.part(0, 0, 0), 20);
        Due.is("Promise 4, \"what they were\": 0", x.part(0, 0, 3), 0);
        x.part(0, 0, 21);
        Due.is("Promise 4, \"what they were\": not what was refused", x.part(0, 0, 3), 3);
    }

    private static void promise4_NO_it_was_SOLD_in_this_NIGHT() {
        Life sold = ONE_OF_EACH.then("a sale", x -> x.sell(1, 0, 1, 0, 0));
        for (int parts : new int[] {0, 1, 2, 20}) {
            Edge.refused("Promise 4, \"NO: it was SOLD in this NIGHT\": " + parts, sold, Edge.NO, x -> x.part(0, 0, parts));
        }
        Edge.refused("Promise 4, \"NO\": of a KIND that is not in it", Life.EVENING, Edge.NO, x -> x.part(0, 2, 1));
        BarMeasure x = sold.lived();
        x.recipe(7);
        Due.is("Promise 4, another RECIPE was not SOLD", x.part(1, 0, 4), 0);
        x.night();
        Due.is("Promise 4, SOLD in the NIGHT ahead", x.part(0, 0, 4), 1);
        x.sell(0, 0, 1, 0, 0);
        Due.is("Promise 4, SOLD in the second NIGHT", x.part(0, 0, 5), -2);
    }

    private static void promise4_NO_also_if_that_is_UNDONE() {
        Life undone = ONE_OF_EACH.then("a sale UNDONE", x -> {
            x.sell(0, 0, 1, 0, 0);
            x.undo();
        });
        Edge.refused("Promise 4, \"(also if that is UNDONE)\"", undone, Edge.NO, x -> x.part(0, 0, 2));
        BarMeasure x = undone.lived();
        x.night();
        Due.is("Promise 4, UNDONE in the NIGHT ahead", x.part(0, 0, 2), 1);
    }

    private static void promise4_a_sale_pushed_out_was_SOLD() {
        Life pushedOut = ONE_OF_EACH.then("a sale and 40 acts", x -> {
            x.sell(0, 0, 1, 0, 0);
            for (int i = 0; i < 40; i++) {
                x.receive(0, 1);
            }
        });
        Edge.refused("Promise 4, \"NO\": SOLD, no longer kept", pushedOut, Edge.NO, x -> x.part(0, 0, 2));
    }

    private static void promise4_a_refused_sale_is_none() {
        BarMeasure x = ONE_OF_EACH.lived();
        x.sell(0, 0, 0, 0, 0);
        x.sell(2, 0, 1, 0, 0);
        x.sell(0, 0, 1, 7, 0);
        Due.is("Promise 4, not SOLD: the sales were refused", x.part(0, 0, 2), 1);
    }

    private static void promise4_several_the_first_BAD_ahead_of_NO() {
        Edge.refused("Promise 4, BAD ahead of NO: PARTS", Life.EVENING, Edge.BAD, x -> x.part(0, 0, 21));
        Edge.refused("Promise 4, BAD ahead of NO: KIND", Life.EVENING, Edge.BAD, x -> x.part(0, 3, 1));
    }

    // ---- Promise 5: "SCALE (0), POUR (1), .. FOAM 1 (6): what it was. BAD."

    private static void promise5_each_from_0_to_its_greatest() {
        for (int what = 0; what <= 6; what++) {
            int setting = what;
            int most = MOST_OF_SETTING[what];
            for (int far : Edge.beyond(0, most)) {
                Edge.refused("Promise 5, \"" + SETTINGS[what] + "\": " + far, Edge.BAD, x -> x.rule(setting, far));
            }
            BarMeasure x = new BarMeasure();
            x.rule(what, 0);
            Due.is("Promise 5, \"" + SETTINGS[what] + "\": it was 0", x.rule(what, most), 0);
            Due.is("Promise 5, \"" + SETTINGS[what] + "\": it was the greatest", x.rule(what, 1), most);
            x.rule(what, most + 1);
            Due.is("Promise 5, \"" + SETTINGS[what] + "\": it was 1", x.rule(what, 0), 1);
        }
    }

    private static void promise5_there_is_no_such_thing() {
        for (int far : Edge.beyond(0, 6)) {
            Edge.refused("Promise 5, no thing " + far, Edge.BAD, x -> x.rule(far, 1));
            Edge.refused("Promise 5, no thing " + far + ", 0", Edge.BAD, x -> x.rule(far, 0));
        }
    }

    private static void promise5_one_told_leaves_the_others() {
        int[] atFirst = {2, 1, 1, 1, 0, 5, 2};
        for (int told = 0; told <= 6; told++) {
            BarMeasure x = new BarMeasure();
            x.rule(told, 10);
            for (int what = 0; what <= 6; what++) {
                Due.is("Promise 5, " + told + " told, " + what + " was", x.rule(what, 0), what == told ? 10 : atFirst[what]);
            }
        }
    }

    private static void promise5_SCALE_0_and_50_in_SPAN() {
        BarMeasure x = ONE_OF_EACH.lived();
        x.rule(0, 0);
        Due.is("Promise 5, SCALE 0", x.gap(0, 0, 0, 1), 0);
        x.rule(0, 50);
        Due.is("Promise 5, SCALE 50", x.gap(0, 0, 0, 1), 50);
        x.rule(0, 51);
        Due.is("Promise 5, SCALE 51 is not taken", x.gap(0, 0, 0, 1), 50);
    }

    private static void promise5_POUR_0_and_20_in_SPAN() {
        BarMeasure x = ONE_OF_EACH.lived();
        x.sell(0, 0, 3, 0, 0);
        x.rule(1, 0);
        Due.is("Promise 5, POUR 0", x.gap(0, 0, 0, 1), 2);
        x.rule(1, 20);
        Due.is("Promise 5, POUR 20", x.gap(0, 0, 0, 1), 62);
        x.rule(1, 21);
        Due.is("Promise 5, POUR 21 is not taken", x.gap(0, 0, 0, 1), 62);
    }

    private static void promise5_WASTE_LACK_0_and_100_in_COST() {
        BarMeasure x = new BarMeasure();
        x.foretell(100, 1);
        x.rule(2, 0);
        x.rule(3, 100);
        Due.is("Promise 5, WASTE 0", x.press(110), 0);
        Due.is("Promise 5, LACK 100", x.press(90), 1000);
        x.rule(2, 100);
        x.rule(3, 0);
        Due.is("Promise 5, WASTE 100", x.press(110), 1000);
        Due.is("Promise 5, LACK 0", x.press(90), 0);
    }

    private static void promise5_FLOOR_0_and_10000_in_PRICE() {
        BarMeasure x = ONE_OF_EACH.lived();
        x.rule(4, 10000);
        Due.is("Promise 5, FLOOR 10000", x.price(0, 0, 0), 10000);
        x.rule(4, 0);
        Due.is("Promise 5, FLOOR 0", x.price(0, 0, 0), 300);
    }

    private static void promise5_FOAM_0_0_and_50_FOAM_1_0_and_10_in_PINTS() {
        BarMeasure x = new BarMeasure();
        x.rule(6, 0);
        x.rule(5, 0);
        Due.is("Promise 5, FOAM 0 0, FOAM 1 0", x.keg(50000, 40), 100);
        x.rule(5, 50);
        Due.is("Promise 5, FOAM 0 50", x.keg(50000, 40), 50);
        x.rule(5, 0);
        x.rule(6, 10);
        Due.is("Promise 5, FOAM 1 10", x.keg(50000, 5), 90);
    }
}
