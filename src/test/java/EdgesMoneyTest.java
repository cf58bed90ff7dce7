/** Boundary cases of promises 27 to 34: priceRule to count; a test for each sentence. */
public final class EdgesMoneyTest {
    /** RECIPE 0 for 1000, RECIPE 1 for 999 cents. */
    private static final Life LIST = new Life("a list of prices", x -> {
        x.recipe(1000);
        x.recipe(999);
    });

    /** DEALS 0: 6 for 5000, 1: 1 for 1000. */
    private static final Life DEALS = new Life("two DEALS", x -> {
        x.deal(6, 5000);
        x.deal(1, 1000);
    });

    public static void main(String[] args) throws ReflectiveOperationException {
        Edge.runAll(EdgesMoneyTest.class);
    }

    // ---- Promise 27: "A RULE: how many. BAD; FULL."

    private static void promise27_DAYS_bits_0_to_6() {
        Edge.refusedBeyond("Promise 27, \"DAYS (bits 0 to 6)\"", 0, 127, Edge.BAD, (x, days) -> x.priceRule(days, 600, 700, 50));
        BarMeasure x = LIST.lived();
        Due.is("Promise 27, no DAYS", x.priceRule(0, 600, 700, 50), 1);
        for (int day = 0; day <= 6; day++) {
            Due.is("Promise 27, no DAYS: it never holds", x.price(0, day, 600), 1000);
        }
        Due.is("Promise 27, all DAYS", x.priceRule(127, 600, 700, 50), 2);
        for (int day = 0; day <= 6; day++) {
            Due.is("Promise 27, all DAYS: it holds", x.price(0, day, 600), 500);
        }
        for (int bit = 0; bit <= 6; bit++) {
            BarMeasure y = LIST.lived();
            y.priceRule(1 << bit, 600, 700, 50);
            for (int day = 0; day <= 6; day++) {
                Due.is("Promise 27, bit " + bit + " on DAY " + day, y.price(0, day, 650), day == bit ? 500 : 1000);
            }
        }
    }

    private static void promise27_from_a_minute_0_to_1439() {
        Edge.refusedBeyond("Promise 27, from \"(0 to 1439 ..)\"", 0, 1439, Edge.BAD, (x, from) -> x.priceRule(127, from, 700, 50));
        BarMeasure x = LIST.lived();
        Due.is("Promise 27, from 0", x.priceRule(8, 0, 1, 10), 1);
        Due.is("Promise 27, from 1439", x.priceRule(8, 1439, 0, 20), 2);
        Due.is("Promise 27, from 0: it holds", x.price(0, 3, 0), 100);
        Due.is("Promise 27, from 1439: not ahead", x.price(0, 3, 1438), 1000);
        Due.is("Promise 27, from 1439: it holds", x.price(0, 3, 1439), 200);
        Due.is("Promise 27, from 1439: not behind midnight", x.price(0, 4, 0), 1000);
    }

    private static void promise27_to_a_minute_0_to_1439() {
        Edge.refusedBeyond("Promise 27, to \"(0 to 1439 ..)\"", 0, 1439, Edge.BAD, (x, to) -> x.priceRule(127, 700, to, 50));
        BarMeasure x = LIST.lived();
        Due.is("Promise 27, to 1439", x.priceRule(8, 1400, 1439, 10), 1);
        Due.is("Promise 27, to 1439: it holds", x.price(0, 3, 1438), 100);
        Due.is("Promise 27, to 1439: \"the last one not with\"", x.price(0, 3, 1439), 1000);
        Due.is("Promise 27, to 0", x.priceRule(8, 1400, 0, 20), 2);
        Due.is("Promise 27, to 0: it holds", x.price(0, 3, 1439), 200);
        Due.is("Promise 27, to 0: \"the last one not with\"", x.price(0, 4, 0), 1000);
    }

    private static void promise27_hundredths_0_to_200() {
        Edge.refusedBeyond("Promise 27, \"hundredths (0 to 200)\"", 0, 200, Edge.BAD, (x, part) -> x.priceRule(127, 0, 0, part));
        BarMeasure x = LIST.lived();
        Due.is("Promise 27, 0 hundredths", x.priceRule(127, 0, 0, 0), 1);
        Due.is("Promise 27, 0 hundredths: PRICE", x.price(0, 0, 0), 0);
        Due.is("Promise 27, 200 hundredths", x.priceRule(127, 0, 0, 200), 2);
        Due.is("Promise 27, 200 hundredths: PRICE", x.price(0, 0, 0), 2000);
        Due.is("Promise 27, 100 hundredths", x.priceRule(127, 0, 0, 100), 3);
        Due.is("Promise 27, 100 hundredths: PRICE", x.price(1, 0, 0), 999);
    }

    private static void promise27_12_at_most_FULL() {
        BarMeasure x = LIST.lived();
        for (int i = 1; i <= 12; i++) {
            Due.is("Promise 27, \"how many\"", x.priceRule(127, 0, 0, i), i);
        }
        Due.is("Promise 27, \"12 at most\"", x.priceRule(127, 0, 0, 13), -3);
        Due.is("Promise 27, the twelfth holds, the thirteenth does not", x.price(0, 0, 0), 120);
        Edge.refused("Promise 27, \"FULL\"", Life.FULL, Edge.FULL, full -> full.priceRule(127, 0, 0, 99));
        Edge.refused("Promise 27, \"FULL\": of no DAYS", Life.FULL, Edge.FULL, full -> full.priceRule(0, 0, 0, 0));
    }

    private static void promise27_several_the_first_BAD_ahead_of_FULL() {
        Edge.refused("Promise 27, BAD ahead of FULL: DAYS", Life.FULL, Edge.BAD, x -> x.priceRule(128, 0, 0, 0));
        Edge.refused("Promise 27, BAD ahead of FULL: from", Life.FULL, Edge.BAD, x -> x.priceRule(1, 1440, 0, 0));
        Edge.refused("Promise 27, BAD ahead of FULL: to", Life.FULL, Edge.BAD, x -> x.priceRule(1, 0, 1440, 0));
        Edge.refused("Promise 27, BAD ahead of FULL: hundredths", Life.FULL, Edge.BAD, x -> x.priceRule(1, 0, 0, 201));
    }

    // ---- Promise 28: "PRICE. BAD."

    private static void promise28_no_such_RECIPE() {
        Edge.refusedNoSuchRecipe("Promise 28", Edge.BAD, (x, recipe) -> x.price(recipe, 0, 0));
        Edge.changesNothing("Promise 28, the last RECIPE", LIST, 999, x -> x.price(1, 0, 0));
    }

    private static void promise28_a_DAY_0_to_6() {
        Edge.refusedBeyond("Promise 28, \"a DAY (0 to 6)\"", 0, 6, Edge.BAD, (x, day) -> x.price(0, day, 600));
        Edge.changesNothing("Promise 28, DAY 0", LIST, 1000, x -> x.price(0, 0, 600));
        Edge.changesNothing("Promise 28, DAY 6", LIST, 1000, x -> x.price(0, 6, 600));
    }

    private static void promise28_at_a_minute_0_to_1439() {
        Edge.refusedBeyond("Promise 28, a minute \"(0 to 1439 ..)\"", 0, 1439, Edge.BAD, (x, minute) -> x.price(0, 3, minute));
        Edge.changesNothing("Promise 28, minute 0", LIST, 1000, x -> x.price(0, 3, 0));
        Edge.changesNothing("Promise 28, minute 1439", LIST, 1000, x -> x.price(0, 3, 1439));
    }

    private static void promise28_the_last_one_not_with() {
        BarMeasure x = LIST.then("a RULE", y -> y.priceRule(127, 600, 720, 50)).lived();
        int[] minutes = {599, 600, 601, 719, 720, 721};
        int[] due = {1000, 500, 500, 500, 1000, 1000};
        for (int i = 0; i < minutes.length; i++) {
            Due.is("Promise 28, \"the last one not with\": " + minutes[i], x.price(0, 2, minutes[i]), due[i]);
        }
    }

    private static void promise28_if_that_is_not_above_the_first_over_midnight() {
        BarMeasure x = LIST.then("a RULE", y -> y.priceRule(4, 1320, 120, 50)).lived();
        int[] days = {2, 2, 2, 3, 3, 3, 3, 2, 2};
        int[] minutes = {1319, 1320, 1439, 0, 119, 120, 1320, 0, 119};
        int[] due = {1000, 500, 500, 500, 500, 1000, 1000, 1000, 1000};
        for (int i = 0; i < days.length; i++) {
            String at = days[i] + ", " + minutes[i];
            Due.is("Promise 28, \"over midnight\": " + at, x.price(0, days[i], minutes[i]), due[i]);
        }
    }

    /** From a minute to the same one is over midnight too; one minute later it is not. */
    private static void promise28_not_above_also_if_the_same() {
        BarMeasure x = LIST.then("a RULE", y -> y.priceRule(4, 700, 700, 50)).lived();
        Due.is("Promise 28, the same minute: ahead", x.price(0, 2, 699), 1000);
        Due.is("Promise 28, the same minute: from then", x.price(0, 2, 700), 500);
        Due.is("Promise 28, the same minute: to midnight", x.price(0, 2, 1439), 500);
        Due.is("Promise 28, the same minute: behind midnight", x.price(0, 3, 0), 500);
        Due.is("Promise 28, the same minute: till then", x.price(0, 3, 699), 500);
        Due.is("Promise 28, the same minute: no more", x.price(0, 3, 700), 1000);
        BarMeasure y = LIST.then("a RULE", z -> z.priceRule(4, 700, 701, 50)).lived();
        Due.is("Promise 28, one minute: it", y.price(0, 2, 700), 500);
        Due.is("Promise 28, one minute: behind", y.price(0, 2, 701), 1000);
        Due.is("Promise 28, one minute: not behind midnight", y.price(0, 3, 0), 1000);
    }

    private static void promise28_behind_midnight_the_DAY_is_the_one_ahead() {
        for (int day = 0; day <= 6; day++) {
            BarMeasure x = LIST.lived();
            x.priceRule(1 << day, 1000, 300, 50);
            for (int asked = 0; asked <= 6; asked++) {
                int morning = asked == (day + 1) % 7 ? 500 : 1000;
                Due.is("Promise 28, \"the DAY is the one ahead's\": " + day + ", " + asked, x.price(0, asked, 299), morning);
                Due.is("Promise 28, ahead of midnight: " + day + ", " + asked, x.price(0, asked, 1000), asked == day ? 500 : 1000);
            }
        }
    }

    private static void promise28_the_latest_RULE_told_that_holds() {
        BarMeasure x = LIST.lived();
        x.priceRule(127, 0, 0, 50);
        x.priceRule(1, 0, 0, 150);
        x.priceRule(1, 100, 200, 70);
        Due.is("Promise 28, \"the latest RULE told that holds\": third", x.price(0, 0, 150), 700);
        Due.is("Promise 28, \"the latest RULE told that holds\": second", x.price(0, 0, 99), 1500);
        Due.is("Promise 28, \"the latest RULE told that holds\": first", x.price(0, 2, 150), 500);
    }

    private static void promise28_none_its_PRICE() {
        BarMeasure x = LIST.lived();
        Due.is("Promise 28, \"(none: its PRICE)\": no RULES", x.price(0, 0, 0), 1000);
        x.priceRule(2, 0, 0, 10);
        Due.is("Promise 28, \"(none: its PRICE)\": one that does not hold", x.price(0, 0, 0), 1000);
    }

    private static void promise28_by_100_cut() {
        int[] hundredths = {1, 10, 50, 99, 101, 199};
        int[] due = {9, 99, 499, 989, 1008, 1988};
        for (int i = 0; i < due.length; i++) {
            BarMeasure x = LIST.lived();
            x.priceRule(127, 0, 0, hundredths[i]);
            Due.is("Promise 28, \"by 100, cut\": " + hundredths[i], x.price(1, 0, 0), due[i]);
        }
    }

    private static void promise28_but_FLOOR_at_least() {
        BarMeasure x = LIST.lived();
        x.rule(4, 999);
        Due.is("Promise 28, FLOOR 999: 1000", x.price(0, 0, 0), 1000);
        Due.is("Promise 28, FLOOR 999: 999", x.price(1, 0, 0), 999);
        x.rule(4, 1000);
        Due.is("Promise 28, FLOOR 1000: 1000", x.price(0, 0, 0), 1000);
        Due.is("Promise 28, FLOOR 1000: 999", x.price(1, 0, 0), 1000);
        x.priceRule(127, 0, 0, 0);
        Due.is("Promise 28, FLOOR 1000: 0 hundredths", x.price(1, 0, 0), 1000);
    }

    // ---- Promise 29: "A PERSON (0 to 5) has POINTS, minutes (0, 0 at first): 0. BAD."

    private static void promise29_a_PERSON_0_to_5() {
        Edge.refusedBeyond("Promise 29, \"A PERSON (0 to 5)\"", 0, 5, Edge.BAD, (x, person) -> x.person(person, 1, 1));
        for (int person = 0; person <= 5; person++) {
            BarMeasure x = new BarMeasure();
            Due.is("Promise 29, PERSON " + person, x.person(person, 1, 1), 0);
            for (int asked = 0; asked <= 5; asked++) {
                Due.is("Promise 29, told " + person + ", asked " + asked, x.tips(7, asked), asked == person ? 7 : 0);
            }
        }
    }

    private static void promise29_POINTS_0_to_10() {
        Edge.refusedBeyond("Promise 29, \"POINTS (0 to 10)\"", 0, 10, Edge.BAD, (x, points) -> x.person(0, points, 60));
        BarMeasure x = new BarMeasure();
        x.person(1, 1, 60);
        Due.is("Promise 29, 10 POINTS", x.person(0, 10, 60), 0);
        Due.is("Promise 29, 10 POINTS: TIPS", x.tips(1100, 0), 1000);
        Due.is("Promise 29, 0 POINTS", x.person(0, 0, 60), 0);
        Due.is("Promise 29, 0 POINTS: TIPS", x.tips(1100, 0), 0);
    }

    private static void promise29_minutes_0_to_1440() {
        Edge.refusedBeyond("Promise 29, \"minutes (0 to 1440)\"", 0, 1440, Edge.BAD, (x, minutes) -> x.person(0, 5, minutes));
        BarMeasure x = new BarMeasure();
        x.person(1, 5, 360);
        Due.is("Promise 29, 1440 minutes", x.person(0, 5, 1440), 0);
        Due.is("Promise 29, 1440 minutes: TIPS", x.tips(1000, 0), 800);
        Due.is("Promise 29, 0 minutes", x.person(0, 5, 0), 0);
        Due.is("Promise 29, 0 minutes: TIPS", x.tips(1000, 0), 0);
    }

    // ---- Promise 30: "What a PERSON gets of TIPS. BAD; NO."

    private static void promise30_an_amount_0_to_1000000_cents() {
        Edge.refusedBeyond("Promise 30, \"an amount (0 to 1000000 cents)\"", 0, 1000000, Edge.BAD, (x, amount) -> x.tips(amount, 0));
        Life one = new Life("one PERSON", x -> x.person(3, 10, 1440));
        Edge.changesNothing("Promise 30, 0 cents", one, 0, x -> x.tips(0, 3));
        Edge.changesNothing("Promise 30, 1 cent", one, 1, x -> x.tips(1, 3));
        Edge.changesNothing("Promise 30, 1000000 cents", one, 1000000, x -> x.tips(1000000, 3));
        Edge.changesNothing("Promise 30, 1000000 cents: another", one, 0, x -> x.tips(1000000, 2));
    }

    private static void promise30_6_people() {
        Edge.refusedBeyond("Promise 30, \"among 6 people\"", 0, 5, Edge.BAD, (x, person) -> x.tips(100, person));
    }

    private static void promise30_where_all_shares_are_0_NO() {
        Edge.refused("Promise 30, \"NO\": nobody has any", Life.NEW, Edge.NO, x -> x.tips(100, 0));
        Edge.refused("Promise 30, \"NO\": 0 cents, nobody has any", Life.NEW, Edge.NO, x -> x.tips(0, 5));
        Life halves = new Life("POINTS or minutes alone", x -> {
            x.person(0, 10, 0);
            x.person(1, 0, 1440);
        });
        Edge.refused("Promise 30, \"NO\": POINTS without minutes", halves, Edge.NO, x -> x.tips(100, 0));
        Edge.refused("Promise 30, \"NO\": minutes without POINTS", halves, Edge.NO, x -> x.tips(100, 1));
        Life gone = new Life("POINTS taken back", x -> {
            x.person(0, 1, 1);
            x.person(0, 0, 1);
        });
        Edge.refused("Promise 30, \"NO\": taken back", gone, Edge.NO, x -> x.tips(100, 0));
        Life least = new Life("the least share", x -> x.person(5, 1, 1));
        Edge.changesNothing("Promise 30, one has the least share", least, 100, x -> x.tips(100, 5));
        Edge.changesNothing("Promise 30, another has 0, but not all", least, 0, x -> x.tips(100, 0));
    }

    private static void promise30_several_the_first_BAD_ahead_of_NO() {
        Edge.refused("Promise 30, BAD ahead of NO: amount", Life.NEW, Edge.BAD, x -> x.tips(-1, 0));
        Edge.refused("Promise 30, BAD ahead of NO: PERSON", Life.NEW, Edge.BAD, x -> x.tips(1, 6));
    }

    private static void promise30_each_its_share_cut() {
        BarMeasure x = new BarMeasure();
        x.person(0, 1, 2);
        x.person(1, 1, 1);
        Due.is("Promise 30, no rest: 2 of 3", x.tips(3, 0), 2);
        Due.is("Promise 30, no rest: 1 of 3", x.tips(3, 1), 1);
        Due.is("Promise 30, \"cut\": 2.67 and the cent", x.tips(4, 0), 3);
        Due.is("Promise 30, \"cut\": 1.33", x.tips(4, 1), 1);
        Due.is("Promise 30, \"cut\": 3.33", x.tips(5, 0), 3);
        Due.is("Promise 30, \"cut\": 1.67 and the cent", x.tips(5, 1), 2);
    }

    private static void promise30_greatest_rests_of_several_the_lowest() {
        BarMeasure x = new BarMeasure();
        for (int i = 0; i < 6; i++) {
            x.person(i, 2, 30);
        }
        for (int cents = 0; cents <= 7; cents++) {
            for (int i = 0; i < 6; i++) {
                int due = cents / 6 + (i < cents % 6 ? 1 : 0);
                Due.is("Promise 30, \"of several the lowest\": " + i + " of " + cents, x.tips(cents, i), due);
            }
        }
        x.person(5, 3, 30);
        Due.is("Promise 30, the greatest rest ahead of the lowest", x.tips(1, 5), 1);
        Due.is("Promise 30, then the lowest", x.tips(2, 0), 1);
        Due.is("Promise 30, and no other", x.tips(2, 1), 0);
    }

    // ---- Promise 31: "PINTS of a KEG. BAD."

    private static void promise31_ml_1000_to_100000() {
        Edge.refusedBeyond("Promise 31, \"ml (1000 to 100000)\"", 1000, 100000, Edge.BAD, (x, ml) -> x.keg(ml, 4));
        Edge.changesNothing("Promise 31, 1000 ml", Life.NEW, 1, x -> x.keg(1000, 4));
        Edge.changesNothing("Promise 31, 100000 ml", Life.NEW, 190, x -> x.keg(100000, 4));
    }

    private static void promise31_a_HEAT_0_to_40() {
        Edge.refusedBeyond("Promise 31, \"a HEAT (0 to 40)\"", 0, 40, Edge.BAD, (x, heat) -> x.keg(50000, heat));
        Edge.changesNothing("Promise 31, HEAT 0", Life.NEW, 95, x -> x.keg(50000, 0));
        Edge.changesNothing("Promise 31, HEAT 40", Life.NEW, 23, x -> x.keg(50000, 40));
    }

    private static void promise31_for_each_degree_above_4() {
        int[] due = {95, 95, 95, 95, 95, 93, 91};
        for (int heat = 0; heat <= 6; heat++) {
            Due.is("Promise 31, \"for each degree above 4\": " + heat, new BarMeasure().keg(50000, heat), due[heat]);
        }
    }

    private static void promise31_together_90_at_most() {
        int[] first = {9, 10, 11, 49, 50};
        int[] due = {11, 10, 10, 10, 10};
        for (int i = 0; i < due.length; i++) {
            BarMeasure x = new BarMeasure();
            x.rule(5, first[i]);
            x.rule(6, 10);
            Due.is("Promise 31, \"90 at most\": " + first[i] + " and 80", x.keg(50000, 12), due[i]);
        }
    }

    private static void promise31_PINTS_cut() {
        BarMeasure x = new BarMeasure();
        x.rule(5, 0);
        Due.is("Promise 31, \"cut\": 1499 ml", x.keg(1499, 4), 2);
        Due.is("Promise 31, \"cut\": 1500 ml", x.keg(1500, 4), 3);
        x.rule(5, 50);
        Due.is("Promise 31, \"cut\": half of 1999 ml", x.keg(1999, 4), 1);
        Due.is("Promise 31, \"cut\": half of 2000 ml", x.keg(2000, 4), 2);
        x.rule(6, 0);
        x.rule(5, 5);
        Due.is("Promise 31, \"cut\": 95 hundredths of 49999 ml", x.keg(49999, 4), 94);
        Due.is("Promise 31, \"cut\": 95 hundredths of 50000 ml", x.keg(50000, 4), 95);
        x.rule(6, 10);
        Due.is("Promise 31, no PINTS: a tenth of 4999 ml", x.keg(4999, 40), 0);
        Due.is("Promise 31, a PINT: a tenth of 5000 ml", x.keg(5000, 40), 1);
    }

    // ---- Promise 32: "A DEAL: how many. BAD; FULL."

    private static void promise32_bottles_1_to_24() {
        Edge.refusedBeyond("Promise 32, \"so many bottles (1 to 24)\"", 1, 24, Edge.BAD, (x, bottles) -> x.deal(bottles, 500));
        BarMeasure x = new BarMeasure();
        Due.is("Promise 32, 24 bottles", x.deal(24, 500), 1);
        Due.is("Promise 32, 24 bottles are bought", x.buy(1, 1), 24);
        Due.is("Promise 32, 1 bottle", x.deal(1, 300), 2);
        Due.is("Promise 32, 1 bottle is bought", x.buy(1, 1), 1);
    }

    private static void promise32_a_price_0_to_100000() {
        Edge.refusedBeyond("Promise 32, \"a price (0 to 100000)\"", 0, 100000, Edge.BAD, (x, price) -> x.deal(6, price));
        BarMeasure x = new BarMeasure();
        Due.is("Promise 32, for 100000", x.deal(1, 100000), 1);
        Due.is("Promise 32, for 100000: 120 of them", x.buy(120, 0), 12000000);
        Due.is("Promise 32, for 0", x.deal(1, 0), 2);
        Due.is("Promise 32, for 0: 120 of them", x.buy(120, 0), 0);
    }

    private static void promise32_5_at_most_FULL() {
        BarMeasure x = new BarMeasure();
        for (int i = 1; i <= 5; i++) {
            Due.is("Promise 32, \"how many\"", x.deal(1, 1000 - 100 * i), i);
        }
        Due.is("Promise 32, \"5 at most\"", x.deal(1, 1), -3);
        Due.is("Promise 32, the fifth counts, the sixth does not", x.buy(1, 0), 500);
        Edge.refused("Promise 32, \"FULL\"", Life.FULL, Edge.FULL, full -> full.deal(1, 0));
        Edge.refused("Promise 32, \"FULL\": one that was told", Life.FULL, Edge.FULL, full -> full.deal(1, 900));
    }

    private static void promise32_several_the_first_BAD_ahead_of_FULL() {
        Edge.refused("Promise 32, BAD ahead of FULL: bottles", Life.FULL, Edge.BAD, x -> x.deal(25, 1));
        Edge.refused("Promise 32, BAD ahead of FULL: price", Life.FULL, Edge.BAD, x -> x.deal(1, 100001));
    }

    // ---- Promise 33: "TO BUY n: the price (what = 0), bottles (1), 2 + d: how often DEAL d. BAD; NO: no DEALS."

    private static void promise33_n_1_to_120() {
        Edge.refusedBeyond("Promise 33, \"n (1 to 120)\"", 1, 120, Edge.BAD, (x, n) -> x.buy(n, 0));
        Edge.changesNothing("Promise 33, 1 bottle", DEALS, 1000, x -> x.buy(1, 0));
        Edge.changesNothing("Promise 33, 120 bottles", DEALS, 100000, x -> x.buy(120, 0));
    }

    private static void promise33_the_price_bottles_and_each_DEAL() {
        Edge.refusedBeyond("Promise 33, there is nothing to ask by", 0, 6, Edge.BAD, (x, far) -> x.buy(5, far));
        Edge.refused("Promise 33, \"2 + d\": no such DEAL", Edge.BAD, x -> x.buy(5, 2 + x.count(5)));
        int[] due = {7000, 8, 1, 2};
        for (int i = 0; i <= 3; i++) {
            int what = i;
            Edge.changesNothing("Promise 33, 8 bottles, " + what, DEALS, due[what], x -> x.buy(8, what));
        }
        Edge.changesNothing("Promise 33, \"2 + d\": the fifth DEAL", Life.FULL, 0, x -> x.buy(1, 6));
    }

    private static void promise33_NO_no_DEALS() {
        Edge.refused("Promise 33, \"NO: no DEALS\": the price", Life.NEW, Edge.NO, x -> x.buy(1, 0));
        Edge.refused("Promise 33, \"NO: no DEALS\": bottles", Life.NEW, Edge.NO, x -> x.buy(120, 1));
    }

    private static void promise33_several_the_first_BAD_ahead_of_NO() {
        Edge.refused("Promise 33, BAD ahead of NO: 0 bottles", Life.NEW, Edge.BAD, x -> x.buy(0, 0));
        Edge.refused("Promise 33, BAD ahead of NO: 121 bottles", Life.NEW, Edge.BAD, x -> x.buy(121, 1));
        Edge.refused("Promise 33, BAD ahead of NO: DEAL 0", Life.NEW, Edge.BAD, x -> x.buy(1, 2));
    }

    private static void promise33_n_bottles_at_least() {
        BarMeasure x = new BarMeasure();
        x.deal(24, 10);
        int[] wanted = {1, 23, 24, 25, 48, 49, 96, 97, 120};
        int[] due = {24, 24, 24, 48, 48, 72, 96, 120, 120};
        for (int i = 0; i < due.length; i++) {
            Due.is("Promise 33, \"n bottles at least\": " + wanted[i], x.buy(wanted[i], 1), due[i]);
            Due.is("Promise 33, the price of " + wanted[i], x.buy(wanted[i], 0), due[i] / 24 * 10);
            Due.is("Promise 33, DEAL 0 for " + wanted[i], x.buy(wanted[i], 2), due[i] / 24);
        }
    }

    private static void promise33_least_price_ahead_of_fewest_bottles() {
        BarMeasure x = DEALS.lived();
        Due.is("Promise 33, 5 for 5000 ahead of 6 for 5000", x.buy(5, 1), 5);
        x.deal(8, 3999);
        Due.is("Promise 33, 8 for 3999 ahead of 4 for 4000", x.buy(4, 1), 8);
        Due.is("Promise 33, 8 for 3999: the price", x.buy(4, 0), 3999);
        Due.is("Promise 33, 3 for 3000 ahead of 8 for 3999", x.buy(3, 1), 3);
    }

    private static void promise33_the_most_bottles_beyond_n() {
        BarMeasure x = new BarMeasure();
        x.deal(13, 7);
        Due.is("Promise 33, 120 by 13", x.buy(120, 1), 130);
        BarMeasure y = new BarMeasure();
        y.deal(23, 1);
        Due.is("Promise 33, 116 by 23: 6 of them", y.buy(116, 1), 138);
        Due.is("Promise 33, 120 by 23: 6 of them", y.buy(120, 2), 6);
        y.deal(24, 1);
        Due.is("Promise 33, 120 by 24 or 23: 5 of 24", y.buy(120, 1), 120);
        Due.is("Promise 33, 120 by 24 or 23: none of 23", y.buy(120, 2), 0);
    }

    private static void promise33_of_several_fewest_bottles() {
        BarMeasure x = new BarMeasure();
        x.deal(12, 100);
        x.deal(7, 100);
        Due.is("Promise 33, \"of several fewest bottles\": 7", x.buy(7, 1), 7);
        Due.is("Promise 33, \"of several fewest bottles\": 8", x.buy(8, 1), 12);
        Due.is("Promise 33, \"of several fewest bottles\": 13", x.buy(13, 1), 14);
        Due.is("Promise 33, \"of several fewest bottles\": 15", x.buy(15, 1), 19);
        BarMeasure y = new BarMeasure();
        y.deal(3, 0);
        y.deal(5, 0);
        Due.is("Promise 33, all for nothing: 4", y.buy(4, 1), 5);
        Due.is("Promise 33, all for nothing: 7", y.buy(7, 1), 8);
        Due.is("Promise 33, all for nothing: 120", y.buy(120, 1), 120);
    }

    private static void promise33_then_more_of_DEAL_0_then_1() {
        BarMeasure x = new BarMeasure();
        x.deal(2, 200);
        x.deal(1, 100);
        x.deal(3, 300);
        Due.is("Promise 33, \"then more of DEAL 0\": 6", x.buy(6, 2), 3);
        Due.is("Promise 33, \"then more of DEAL 0\": 7", x.buy(7, 2), 3);
        Due.is("Promise 33, \"then 1\": 7", x.buy(7, 3), 1);
        Due.is("Promise 33, never DEAL 2", x.buy(7, 4), 0);
        BarMeasure y = new BarMeasure();
        y.deal(5, 600);
        y.deal(2, 200);
        y.deal(4, 400);
        Due.is("Promise 33, least price ahead of more of DEAL 0", y.buy(10, 2), 0);
        Due.is("Promise 33, more of DEAL 1", y.buy(10, 3), 5);
    }

    // ---- Promise 34: "How many: 0 KINDS, 1 RECIPES, 2 the NIGHT, 3 acts kept, 4 RULES, 5 DEALS, 6 FORETOLD. BAD."

    private static void promise34_0_KINDS_to_6_FORETOLD() {
        Edge.refusedBeyond("Promise 34, \"0 KINDS, .. 6 FORETOLD\"", 0, 6, Edge.BAD, (x, what) -> x.count(what));
        int[] full = {10, 12, 19, 40, 12, 5, 8};
        int[] evening = {3, 4, 2, 9, 2, 3, 3};
        for (int i = 0; i <= 6; i++) {
            int what = i;
            Edge.changesNothing("Promise 34, " + what, Life.NEW, 0, x -> x.count(what));
            Edge.changesNothing("Promise 34, " + what, Life.EVENING, evening[what], x -> x.count(what));
            Edge.changesNothing("Promise 34, " + what, Life.FULL, full[what], x -> x.count(what));
        }
    }

    private static void promise34_what_is_refused_is_not_counted() {
        BarMeasure x = new BarMeasure();
        x.kind(-1, 500, 100);
        x.recipe(-1);
        x.receive(0, 1);
        x.priceRule(128, 0, 0, 0);
        x.deal(0, 0);
        x.foretell(201, 1);
        for (int what = 0; what <= 6; what++) {
            Due.is("Promise 34, refused: " + what, x.count(what), 0);
        }
    }

    private static void promise34_acts_kept_0_to_40() {
        BarMeasure x = new BarMeasure();
        x.kind(0, 500, 100);
        for (int i = 1; i <= 42; i++) {
            x.receive(0, 1);
            Due.is("Promise 34, \"3 acts kept\"", x.count(3), i <= 40 ? i : 40);
        }
        x.undo();
        Due.is("Promise 34, \"3 acts kept\": one UNDONE", x.count(3), 39);
        x.night();
        Due.is("Promise 34, \"3 acts kept\": a new NIGHT", x.count(3), 0);
    }
}
