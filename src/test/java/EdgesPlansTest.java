/** Boundary cases of promises 21 to 26: foretell, forget, press, makes, fewest, most; a test for each sentence. */
public final class EdgesPlansTest {
    /** KINDS 0 to 3; RECIPES 0 (of 0 and 1), 1 (of 1 and 2), 2 (of 3), 3 without PARTS. */
    private static final Life SHELF = new Life("a shelf", x -> {
        for (int i = 0; i < 4; i++) {
            x.kind(0, 500, 100);
            x.recipe(100);
        }
        x.part(0, 0, 1);
        x.part(0, 1, 20);
        x.part(1, 1, 2);
        x.part(1, 2, 3);
        x.part(2, 3, 4);
    });

    public static void main(String[] args) throws ReflectiveOperationException {
        Edge.runAll(EdgesPlansTest.class);
    }

    // ---- Promise 21: "An amount FORETOLD with a weight: how many. BAD; FULL: 8."

    private static void promise21_amounts_0_to_200() {
        Edge.refusedBeyond("Promise 21, \"amounts (0 to 200)\"", 0, 200, Edge.BAD, (x, amount) -> x.foretell(amount, 1));
        BarMeasure x = new BarMeasure();
        Due.is("Promise 21, amount 0", x.foretell(0, 1), 1);
        Due.is("Promise 21, amount 0: COST", x.press(3), 3);
        Due.is("Promise 21, amount 200", x.foretell(200, 1), 2);
        Due.is("Promise 21, amount 200: COST", x.press(0), 200);
    }

    private static void promise21_weights_1_to_100() {
        Edge.refusedBeyond("Promise 21, \"weights (1 to 100)\"", 1, 100, Edge.BAD, (x, weight) -> x.foretell(50, weight));
        BarMeasure x = new BarMeasure();
        Due.is("Promise 21, weight 1", x.foretell(50, 1), 1);
        Due.is("Promise 21, weight 1: COST", x.press(49), 1);
        Due.is("Promise 21, weight 100", x.foretell(60, 100), 2);
        Due.is("Promise 21, weight 100: COST", x.press(49), 1101);
    }

    private static void promise21_up_to_8_FULL_8() {
        BarMeasure x = new BarMeasure();
        for (int i = 1; i <= 8; i++) {
            Due.is("Promise 21, \"how many\"", x.foretell(i, 1), i);
        }
        Due.is("Promise 21, \"FULL: 8\"", x.foretell(9, 1), -3);
        Due.is("Promise 21, the eighth counts, the ninth does not", x.press(0), 36);
        Edge.refused("Promise 21, \"FULL: 8\"", Life.FULL, Edge.FULL, full -> full.foretell(0, 1));
        Edge.refused("Promise 21, \"FULL: 8\": one that was told", Life.FULL, Edge.FULL, full -> full.foretell(25, 88));
        x.forget();
        Due.is("Promise 21, FULL no more", x.foretell(9, 1), 1);
    }

    private static void promise21_several_the_first_BAD_ahead_of_FULL() {
        Edge.refused("Promise 21, BAD ahead of FULL: amount", Life.FULL, Edge.BAD, x -> x.foretell(201, 1));
        Edge.refused("Promise 21, BAD ahead of FULL: weight", Life.FULL, Edge.BAD, x -> x.foretell(1, 101));
    }

    private static void promise21_the_same_amount_again() {
        BarMeasure x = new BarMeasure();
        x.foretell(10, 3);
        Due.is("Promise 21, an amount told again", x.foretell(10, 4), 2);
        Due.is("Promise 21, both weights count", x.press(9), 7);
    }

    // ---- Promise 22: "Nothing is FORETOLD: how many were."

    private static void promise22_how_many_were_0_to_8() {
        Edge.changesNothing("Promise 22, \"how many were\": 0", Life.NEW, 0, x -> x.forget());
        for (int told = 1; told <= 8; told++) {
            BarMeasure x = new BarMeasure();
            for (int i = 0; i < told; i++) {
                x.foretell(100, 1);
            }
            x.foretell(100, 0);
            Due.is("Promise 22, \"how many were\"", x.forget(), told);
            Due.is("Promise 22, \"Nothing is FORETOLD\": count", x.count(6), 0);
            Due.is("Promise 22, \"Nothing is FORETOLD\": COST", x.press(0), -2);
            Due.is("Promise 22, \"Nothing is FORETOLD\": how many were", x.forget(), 0);
            x.foretell(7, 1);
            Due.is("Promise 22, what is told anew counts alone", x.press(0), 7);
        }
    }

    // ---- Promise 23: "COST of Q; Q = -1: PAR. NO: nothing is FORETOLD; BAD."

    private static void promise23_Q_0_to_200() {
        Life told = SHELF.then("an amount", x -> x.foretell(150, 2));
        for (int far : Edge.beyond(-1, 200)) {
            Edge.refused("Promise 23, \"Q (0 to 200)\": " + far, told, Edge.BAD, x -> x.press(far));
            Edge.refused("Promise 23, \"Q (0 to 200)\": " + far, Life.EVENING, Edge.BAD, x -> x.press(far));
            Edge.refused("Promise 23, \"Q (0 to 200)\": " + far, Life.FULL, Edge.BAD, x -> x.press(far));
        }
        Edge.changesNothing("Promise 23, Q 0", told, 300, x -> x.press(0));
        Edge.changesNothing("Promise 23, Q 200", told, 100, x -> x.press(200));
        Edge.changesNothing("Promise 23, Q = -1: PAR", told, 150, x -> x.press(-1));
    }

    private static void promise23_NO_nothing_is_FORETOLD() {
        Life forgotten = Life.EVENING.then("all forgotten", x -> x.forget());
        for (int q : new int[] {-1, 0, 200}) {
            Edge.refused("Promise 23, \"NO: nothing is FORETOLD\": " + q, Life.NEW, Edge.NO, x -> x.press(q));
            Edge.refused("Promise 23, \"NO: nothing is FORETOLD\": " + q, forgotten, Edge.NO, x -> x.press(q));
        }
    }

    private static void promise23_several_the_first_NO_ahead_of_BAD() {
        for (int far : Edge.beyond(-1, 200)) {
            Edge.refused("Promise 23, NO ahead of BAD: " + far, Life.NEW, Edge.NO, x -> x.press(far));
        }
    }

    private static void promise23_above_and_below_an_amount() {
        BarMeasure x = new BarMeasure();
        x.foretell(100, 3);
        x.rule(2, 5);
        x.rule(3, 7);
        Due.is("Promise 23, the amount itself costs nothing", x.press(100), 0);
        Due.is("Promise 23, \"WASTE times what is above an amount\": 1", x.press(101), 15);
        Due.is("Promise 23, \"LACK times what is below it\": 1", x.press(99), 21);
    }

    private static void promise23_PAR_of_several_the_least() {
        BarMeasure x = new BarMeasure();
        x.foretell(40, 1);
        x.foretell(60, 1);
        Due.is("Promise 23, \"of several the least\": 40 to 60", x.press(-1), 40);
        x.rule(2, 0);
        x.rule(3, 0);
        Due.is("Promise 23, \"of several the least\": all cost 0", x.press(-1), 0);
        x.rule(3, 1);
        Due.is("Promise 23, \"of several the least\": 60 to 200", x.press(-1), 60);
        x.rule(3, 0);
        x.rule(2, 1);
        Due.is("Promise 23, \"of several the least\": 0 to 40", x.press(-1), 0);
    }

    private static void promise23_PAR_0_and_200() {
        BarMeasure x = new BarMeasure();
        x.foretell(0, 1);
        Due.is("Promise 23, PAR is 0", x.press(-1), 0);
        x.foretell(200, 2);
        Due.is("Promise 23, PAR is 200", x.press(-1), 200);
        x.foretell(1, 2);
        Due.is("Promise 23, PAR is 1", x.press(-1), 1);
        BarMeasure y = new BarMeasure();
        y.foretell(199, 1);
        Due.is("Promise 23, PAR is 199", y.press(-1), 199);
    }

    private static void promise23_the_greatest_COST() {
        BarMeasure x = new BarMeasure();
        x.rule(2, 100);
        x.rule(3, 100);
        for (int i = 0; i < 8; i++) {
            x.foretell(200, 100);
        }
        Due.is("Promise 23, the greatest COST", x.press(0), 16000000);
        Due.is("Promise 23, the least COST", x.press(200), 0);
    }

    // ---- Promise 24: "How many RECIPES (with any PARTS) a set of KINDS can make. BAD."

    private static void promise24_a_set_of_KINDS() {
        Edge.refusedBeyond("Promise 24, no set", 0, 1023, Edge.BAD, (x, far) -> x.makes(far));
        Edge.refused("Promise 24, a set with a KIND behind the last", Edge.BAD, x -> x.makes(1 << x.count(0)));
        Edge.changesNothing("Promise 24, no KINDS: the empty set", Life.NEW, 0, x -> x.makes(0));
        Edge.refused("Promise 24, no KINDS: KIND 0", Life.NEW, Edge.BAD, x -> x.makes(1));
        Edge.changesNothing("Promise 24, all of 4 KINDS", SHELF, 3, x -> x.makes(15));
        Edge.changesNothing("Promise 24, the empty set", SHELF, 0, x -> x.makes(0));
        Edge.refused("Promise 24, a fifth KIND", SHELF, Edge.BAD, x -> x.makes(16));
        Edge.changesNothing("Promise 24, all of 10 KINDS", Life.FULL, 12, x -> x.makes(1023));
    }

    private static void promise24_if_that_has_all_of_which_it_has_PARTS() {
        BarMeasure x = SHELF.lived();
        Due.is("Promise 24, one of two KINDS", x.makes(1), 0);
        Due.is("Promise 24, the other of two KINDS", x.makes(2), 0);
        Due.is("Promise 24, both", x.makes(3), 1);
        Due.is("Promise 24, one KIND alone", x.makes(8), 1);
    }

    private static void promise24_with_any_PARTS() {
        BarMeasure x = SHELF.lived();
        Due.is("Promise 24, \"(with any PARTS)\": RECIPE 3 has none", x.makes(15), 3);
        x.part(3, 0, 1);
        Due.is("Promise 24, \"(with any PARTS)\": 1 PART", x.makes(15), 4);
        x.part(3, 0, 0);
        Due.is("Promise 24, \"(with any PARTS)\": 0 again", x.makes(15), 3);
        x.part(0, 0, 0);
        Due.is("Promise 24, a KIND with 0 PARTS is not needed", x.makes(2), 1);
        x.part(1, 2, 0);
        Due.is("Promise 24, nor is KIND 2 of RECIPE 1", x.makes(2), 2);
        x.part(2, 3, 0);
        Due.is("Promise 24, RECIPE 2 has no PARTS any more", x.makes(15), 2);
    }

    // ---- Promise 25: "FEWEST for m (1 to 12): as bits. NONE; BAD."

    private static void promise25_m_1_to_12() {
        Edge.refusedBeyond("Promise 25, \"m (1 to 12)\"", 1, 12, Edge.BAD, (x, m) -> x.fewest(m));
        Edge.changesNothing("Promise 25, m 1", SHELF, 8, x -> x.fewest(1));
        Edge.changesNothing("Promise 25, m 12", Life.FULL, 1023, x -> x.fewest(12));
    }

    private static void promise25_NONE() {
        Edge.changesNothing("Promise 25, NONE: no RECIPES", Life.NEW, Edge.NONE, x -> x.fewest(1));
        Edge.changesNothing("Promise 25, all that can be MADE", SHELF, 15, x -> x.fewest(3));
        Edge.changesNothing("Promise 25, NONE: one more", SHELF, Edge.NONE, x -> x.fewest(4));
        Edge.changesNothing("Promise 25, NONE: 12", SHELF, Edge.NONE, x -> x.fewest(12));
        Life noParts = new Life("a RECIPE without PARTS", x -> {
            x.kind(0, 500, 100);
            x.recipe(100);
        });
        Edge.changesNothing("Promise 25, NONE: \"with any PARTS\"", noParts, Edge.NONE, x -> x.fewest(1));
    }

    private static void promise25_several_the_first_BAD_though_there_is_NONE() {
        Edge.refused("Promise 25, BAD, not NONE: 0", Life.NEW, Edge.BAD, x -> x.fewest(0));
        Edge.refused("Promise 25, BAD, not NONE: 13", Life.NEW, Edge.BAD, x -> x.fewest(13));
    }

    private static void promise25_m_RECIPES_and_more() {
        BarMeasure x = new BarMeasure();
        x.kind(0, 500, 100);
        for (int i = 1; i <= 12; i++) {
            x.recipe(100);
            x.part(i - 1, 0, 1);
        }
        for (int m = 1; m <= 12; m++) {
            Due.is("Promise 25, 12 can be MADE where " + m + " are asked", x.fewest(m), 1);
        }
    }

    private static void promise25_fewest_KINDS_ahead_of_least_bits() {
        BarMeasure x = SHELF.lived();
        Due.is("Promise 25, one KIND (8) ahead of two (3)", x.fewest(1), 8);
        x.part(3, 2, 1);
        Due.is("Promise 25, \"of several the least bits\": 4 ahead of 8", x.fewest(1), 4);
        Due.is("Promise 25, two RECIPES of two KINDS: 6 ahead of 12", x.fewest(2), 6);
        Due.is("Promise 25, three RECIPES of three KINDS: 7 ahead of 14", x.fewest(3), 7);
    }

    // ---- Promise 26: "MOST by k KINDS (0 to all): as bits. BAD."

    private static void promise26_k_KINDS_0_to_all() {
        Edge.refusedBeyond("Promise 26, \"k KINDS (0 to all)\"", 0, 10, Edge.BAD, (x, far) -> x.most(far));
        Edge.refused("Promise 26, \"k KINDS (0 to all)\": one more than all", Edge.BAD, x -> x.most(x.count(0) + 1));
        Edge.changesNothing("Promise 26, 0 of no KINDS", Life.NEW, 0, x -> x.most(0));
        Edge.changesNothing("Promise 26, 0 of 4", SHELF, 0, x -> x.most(0));
        Edge.changesNothing("Promise 26, all 4", SHELF, 15, x -> x.most(4));
        Edge.refused("Promise 26, 5 of 4", SHELF, Edge.BAD, x -> x.most(5));
        Edge.changesNothing("Promise 26, all 10", Life.FULL, 1023, x -> x.most(10));
    }

    private static void promise26_of_several_the_least_bits() {
        BarMeasure x = SHELF.lived();
        Due.is("Promise 26, 1 KIND", x.most(1), 8);
        Due.is("Promise 26, 2 KINDS: 3 ahead of 6 and 12", x.most(2), 3);
        Due.is("Promise 26, 3 KINDS: 7 ahead of 11 and 14", x.most(3), 7);
        x.part(3, 3, 1);
        Due.is("Promise 26, more RECIPES ahead of less bits: 2 KINDS", x.most(2), 9);
        Due.is("Promise 26, more RECIPES ahead of less bits: 3 KINDS", x.most(3), 11);
    }

    private static void promise26_though_none_can_be_MADE() {
        BarMeasure x = new BarMeasure();
        for (int k = 1; k <= 10; k++) {
            x.kind(0, 500, 100);
            Due.is("Promise 26, no RECIPES: all KINDS", x.most(k), (1 << k) - 1);
            Due.is("Promise 26, no RECIPES: least bits", x.most(k - 1), (1 << k - 1) - 1);
        }
    }
}
