/** Promises 1 to 5: a new object, kind, recipe, part, rule. */
public final class KindsRecipesTest {
    private static final int LEAST = Integer.MIN_VALUE, MOST = Integer.MAX_VALUE;

    public static void main(String[] args) {
        promise1NewObject();
        promise2Kind();
        promise3Recipe();
        promise4Part();
        promise4PartOfWhatWasSold();
        promise5Rule();
        promise5RuleChangesNothingWhenBad();
        Due.end();
    }

    private static void promise1NewObject() {
        BarMeasure x = new BarMeasure();
        for (int what = 0; what <= 6; what++) {
            Due.is("new: count(" + what + ")", x.count(what), 0);
        }
        int[] atFirst = {2, 1, 1, 1, 0, 5, 2};
        for (int what = 0; what <= 6; what++) {
            Due.is("new: rule(" + what + ", 0)", x.rule(what, 0), atFirst[what]);
        }
        for (int bar = 0; bar <= 1; bar++) {
            Due.is("new: takings", x.takings(bar), 0);
            Due.is("new: keeper", x.keeper(bar, 2), 0);
        }
        Due.is("new: tips", x.tips(100, 0), -2);
        Due.is("new: undo", x.undo(), -2);
        Due.is("new: night", x.night(), 1);
        x.kind(0, 100, 100);
        x.recipe(5);
        Due.is("new KIND: store", x.has(2, 0), 0);
        Due.is("new KIND: book 0", x.has(0, 0), 0);
        Due.is("new KIND: book 1", x.has(1, 0), 0);
        for (int what = 0; what <= 4; what++) {
            Due.is("new KIND: all", x.all(0, what), 0);
        }
        Due.is("new RECIPE: makes", x.makes(1), 0);
        Due.is("new RECIPE: price", x.price(0, 0, 0), 5);
    }

    private static void promise2Kind() {
        BarMeasure x = new BarMeasure();
        for (int far : new int[] {-1, 2001, LEAST, MOST}) {
            Due.is("kind: tare " + far, x.kind(far, 500, 100), -1);
        }
        for (int far : new int[] {99, 2001, 0, -1, LEAST, MOST}) {
            Due.is("kind: size " + far, x.kind(0, far, 100), -1);
        }
        for (int far : new int[] {49, 151, 0, -1, LEAST, MOST}) {
            Due.is("kind: dense " + far, x.kind(0, 500, far), -1);
        }
        Due.is("kind: none yet", x.count(0), 0);
        Due.is("kind: least numbers", x.kind(0, 100, 50), 0);
        Due.is("kind: most numbers", x.kind(2000, 2000, 150), 1);
        for (int i = 2; i < 10; i++) {
            Due.is("kind: as they come", x.kind(300, 700, 94), i);
            Due.is("kind: counted", x.count(0), i + 1);
        }
        Due.is("kind: FULL", x.kind(300, 700, 94), -3);
        Due.is("kind: BAD ahead of FULL", x.kind(-1, 700, 94), -1);
        Due.is("kind: still 10", x.count(0), 10);
        x.receive(9, 1);
        Due.is("kind: the last one has its SIZE", x.issue(0, 9, 1), 700);
        x.receive(1, 1);
        Due.is("kind: the second has its SIZE", x.issue(0, 1, 1), 2000);
        Due.is("kind: the second has its TARE and DENSE", x.weigh(1, 1, 0, 2003), -2);
        Due.is("kind: the first has its TARE and DENSE", x.weigh(1, 0, 0, 3), -6);
    }

    private static void promise3Recipe() {
        BarMeasure x = new BarMeasure();
        for (int far : new int[] {-1, 10001, LEAST, MOST}) {
            Due.is("recipe: price " + far, x.recipe(far), -1);
        }
        Due.is("recipe: none yet", x.count(1), 0);
        Due.is("recipe: least price", x.recipe(0), 0);
        Due.is("recipe: most price", x.recipe(10000), 1);
        for (int i = 2; i < 12; i++) {
            Due.is("recipe: as they come", x.recipe(i * 100), i);
            Due.is("recipe: counted", x.count(1), i + 1);
        }
        Due.is("recipe: FULL", x.recipe(5), -3);
        Due.is("recipe: BAD ahead of FULL", x.recipe(-1), -1);
        Due.is("recipe: still 12", x.count(1), 12);
        Due.is("recipe: price of 0", x.price(0, 0, 0), 0);
        Due.is("recipe: price of 1", x.price(1, 0, 0), 10000);
        Due.is("recipe: price of 11", x.price(11, 0, 0), 1100);
    }

    private static void promise4Part() {
        BarMeasure x = new BarMeasure();
        Due.is("part: nothing there", x.part(0, 0, 1), -1);
        x.kind(0, 500, 100);
        Due.is("part: no RECIPE", x.part(0, 0, 1), -1);
        x.recipe(100);
        x.recipe(200);
        Due.is("part: no such KIND", x.part(0, 1, 1), -1);
        Due.is("part: no such RECIPE", x.part(2, 0, 1), -1);
        for (int far : new int[] {-1, LEAST, MOST}) {
            Due.is("part: RECIPE " + far, x.part(far, 0, 1), -1);
            Due.is("part: KIND " + far, x.part(0, far, 1), -1);
            Due.is("part: parts " + far, x.part(0, 0, far), -1);
        }
        Due.is("part: 21", x.part(0, 0, 21), -1);
        Due.is("part: 0 at first", x.part(0, 0, 20), 0);
        Due.is("part: 20 it was", x.part(0, 0, 1), 20);
        Due.is("part: 1 it was", x.part(0, 0, 0), 1);
        Due.is("part: 0 it was", x.part(0, 0, 7), 0);
        Due.is("part: the other RECIPE has none", x.part(1, 0, 3), 0);
        x.kind(0, 500, 100);
        Due.is("part: of a KIND that came later", x.part(0, 1, 2), 0);
        Due.is("part: 7 it still was", x.part(0, 0, 7), 7);
        x.sell(0, 0, 2, 0, 0);
        Due.is("part: 6 ml each", x.has(0, 0), -84);
        Due.is("part: 6 ml each of the second KIND", x.has(0, 1), -24);
    }

    private static void promise4PartOfWhatWasSold() {
        BarMeasure x = new BarMeasure();
        x.kind(0, 500, 100);
        x.recipe(100);
        x.recipe(100);
        x.part(0, 0, 4);
        x.sell(1, 0, 1, 0, 0);
        Due.is("part: SOLD", x.part(0, 0, 5), -2);
        Due.is("part: SOLD, the same number", x.part(0, 0, 4), -2);
        Due.is("part: BAD ahead of NO", x.part(0, 0, 21), -1);
        Due.is("part: the other RECIPE was not SOLD", x.part(1, 0, 5), 0);
        Due.is("part: undo", x.undo(), 3);
        Due.is("part: SOLD, though UNDONE", x.part(0, 0, 5), -2);
        x.night();
        Due.is("part: a new NIGHT", x.part(0, 0, 5), 4);
        x.sell(0, 1, 1, 0, 0);
        x.night();
        x.sell(0, 1, 1, 0, 0);
        Due.is("part: SOLD in this NIGHT too", x.part(1, 0, 1), -2);
        Due.is("part: a RECIPE not SOLD in this NIGHT", x.part(0, 0, 1), 5);
        x.recipe(9);
        x.sell(0, 2, 1, 0, 0);
        Due.is("part: SOLD without any PARTS", x.part(2, 0, 1), -2);
        Due.is("part: a refused sale is none", x.sell(0, 0, 0, 0, 0), -1);
        Due.is("part: a refused sale leaves it free", x.part(0, 0, 2), 1);
    }

    private static void promise5Rule() {
        BarMeasure x = new BarMeasure();
        int[] atFirst = {2, 1, 1, 1, 0, 5, 2};
        int[] most = {50, 20, 100, 100, 10000, 50, 10};
        for (int what = 0; what <= 6; what++) {
            Due.is("rule: too low " + what, x.rule(what, -1), -1);
            Due.is("rule: too high " + what, x.rule(what, most[what] + 1), -1);
            Due.is("rule: far too low " + what, x.rule(what, LEAST), -1);
            Due.is("rule: far too high " + what, x.rule(what, MOST), -1);
            Due.is("rule: at first " + what, x.rule(what, most[what]), atFirst[what]);
            Due.is("rule: the most " + what, x.rule(what, 0), most[what]);
            Due.is("rule: 0 " + what, x.rule(what, 1), 0);
        }
        for (int what : new int[] {-1, 7, LEAST, MOST}) {
            Due.is("rule: what " + what, x.rule(what, 0), -1);
        }
        for (int what = 0; what <= 6; what++) {
            Due.is("rule: 1 " + what, x.rule(what, 1), 1);
        }
    }

    private static void promise5RuleChangesNothingWhenBad() {
        BarMeasure x = new BarMeasure();
        x.recipe(300);
        x.rule(4, 500);
        x.rule(4, 10001);
        Due.is("rule: FLOOR stays", x.price(0, 0, 0), 500);
        x.rule(5, 51);
        x.rule(6, 11);
        Due.is("rule: FOAM stays", x.keg(100000, 5), 186);
    }
}
