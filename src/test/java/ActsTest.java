/** Promises 6 to 14: receive, issue, lend, sell, lose, weigh, undo, keeper, night. */
public final class ActsTest {
    private static final int LEAST = Integer.MIN_VALUE, MOST = Integer.MAX_VALUE;
    private static final int FAR_BAD = -1000000000, FAR_NO = -1000000002, FAR_NONE = -1000000004;

    public static void main(String[] args) {
        promise6Receive();
        promise7Issue();
        promise8Lend();
        promise9Sell();
        promise9SellOfAllKinds();
        promise9SellBad();
        promise10Lose();
        promise11Weigh();
        promise11WeighBad();
        promise12UndoEachAct();
        promise12UndoKeeps40();
        promise12UndoAcrossNights();
        promise13Keeper();
        promise14Night();
        Due.end();
    }

    /** KIND 0: 400 grams, 700 ml, 94; KIND 1: 0 grams, 1000 ml, 100; RECIPE 0: 5 and 2 PARTS for 900; RECIPE 1: KIND 1. */
    private static BarMeasure twoKinds() {
        BarMeasure x = new BarMeasure();
        x.kind(400, 700, 94);
        x.kind(0, 1000, 100);
        x.recipe(900);
        x.part(0, 0, 5);
        x.part(0, 1, 2);
        x.recipe(500);
        x.part(1, 1, 20);
        return x;
    }

    private static void promise6Receive() {
        BarMeasure x = new BarMeasure();
        Due.is("receive: no KIND", x.receive(0, 1), -1);
        x.kind(0, 100, 100);
        x.kind(0, 100, 100);
        for (int far : new int[] {-1, 2, LEAST, MOST}) {
            Due.is("receive: KIND " + far, x.receive(far, 1), -1);
        }
        for (int far : new int[] {0, -1, 101, LEAST, MOST}) {
            Due.is("receive: n " + far, x.receive(0, far), -1);
        }
        Due.is("receive: 1", x.receive(0, 1), 1);
        Due.is("receive: the other KIND", x.receive(1, 7), 7);
        for (int i = 1; i < 10; i++) {
            Due.is("receive: 100", x.receive(0, 100), i * 100 + 1);
        }
        Due.is("receive: 1001", x.receive(0, 100), -3);
        Due.is("receive: nothing changed", x.has(2, 0), 901);
        Due.is("receive: nothing counted", x.all(0, 4), 901);
        Due.is("receive: no act kept", x.count(3), 11);
        Due.is("receive: BAD ahead of FULL", x.receive(0, 101), -1);
        Due.is("receive: 1000", x.receive(0, 99), 1000);
        Due.is("receive: above 1000", x.receive(0, 1), -3);
        x.issue(0, 0, 3);
        Due.is("receive: what is free again", x.receive(0, 3), 1000);
        Due.is("receive: all", x.all(0, 4), 1003);
    }

    private static void promise7Issue() {
        BarMeasure x = twoKinds();
        Due.is("issue: THE STORE is empty", x.issue(0, 0, 1), FAR_NO);
        x.receive(0, 100);
        x.receive(0, 50);
        for (int far : new int[] {-1, 2, LEAST, MOST}) {
            Due.is("issue: bar " + far, x.issue(far, 0, 1), FAR_BAD);
            Due.is("issue: KIND " + far, x.issue(0, far, 1), FAR_BAD);
        }
        for (int far : new int[] {0, -1, 101, LEAST, MOST}) {
            Due.is("issue: n " + far, x.issue(0, 0, far), FAR_BAD);
        }
        Due.is("issue: BAD ahead of NO", x.issue(0, 1, 0), FAR_BAD);
        Due.is("issue: 1", x.issue(0, 0, 1), 700);
        Due.is("issue: 100", x.issue(0, 0, 100), 70700);
        Due.is("issue: the other BAR", x.issue(1, 0, 2), 1400);
        Due.is("issue: THE STORE", x.has(2, 0), 47);
        Due.is("issue: more than there are", x.issue(1, 0, 48), FAR_NO);
        Due.is("issue: nothing changed", x.has(2, 0), 47);
        Due.is("issue: THE BOOK stays", x.has(1, 0), 1400);
        Due.is("issue: all there are", x.issue(1, 0, 47), 34300);
        Due.is("issue: THE STORE has none", x.has(2, 0), 0);
        Due.is("issue: of a KIND alone", x.has(1, 1), 0);
        x.lose(0, 1, 0, 300);
        x.receive(1, 1);
        Due.is("issue: on a BOOK below 0", x.issue(0, 1, 1), 700);
    }

    private static void promise8Lend() {
        BarMeasure x = twoKinds();
        x.receive(1, 20);
        x.issue(0, 1, 15);
        for (int far : new int[] {-1, 2, LEAST, MOST}) {
            Due.is("lend: bar " + far, x.lend(far, 1, 1), FAR_BAD);
            Due.is("lend: KIND " + far, x.lend(0, far, 1), FAR_BAD);
        }
        for (int far : new int[] {0, -1, 10001, LEAST, MOST}) {
            Due.is("lend: ml " + far, x.lend(0, 1, far), FAR_BAD);
        }
        Due.is("lend: nothing to lend", x.lend(1, 1, 1), FAR_NO);
        Due.is("lend: BAD ahead of NO", x.lend(1, 1, 10001), FAR_BAD);
        Due.is("lend: 10000", x.lend(0, 1, 10000), 10000);
        Due.is("lend: the rest", x.has(0, 1), 5000);
        Due.is("lend: 1", x.lend(1, 1, 1), 5001);
        Due.is("lend: one too many", x.lend(0, 1, 5002), FAR_NO);
        Due.is("lend: nothing changed", x.has(0, 1), 5001);
        Due.is("lend: all it has", x.lend(0, 1, 5001), 15000);
        Due.is("lend: 0 is left", x.has(0, 1), 0);
        x.lose(0, 1, 0, 10);
        Due.is("lend: from below 0", x.lend(0, 1, 1), FAR_NO);
        Due.is("lend: to below 0", x.lend(1, 1, 4), -6);
        Due.is("lend: not SOLD", x.all(1, 0), 0);
        Due.is("lend: another KIND stays", x.has(1, 0), 0);
    }

    private static void promise9Sell() {
        BarMeasure x = twoKinds();
        Due.is("sell: 1", x.sell(0, 0, 1, 0, 0), 900);
        Due.is("sell: THE BOOK may come below 0", x.has(0, 0), -30);
        Due.is("sell: the second KIND", x.has(0, 1), -12);
        Due.is("sell: 100", x.sell(1, 0, 100, 6, 1439), 90000);
        Due.is("sell: the other BAR", x.has(1, 0), -3000);
        Due.is("sell: the first BAR stays", x.has(0, 0), -30);
        x.sell(0, 1, 3, 1, 1);
        Due.is("sell: DRINKS of KIND 0", x.gap(0, 0, 0, 3), 1);
        Due.is("sell: DRINKS of KIND 1", x.gap(0, 0, 1, 3), 4);
        Due.is("sell: DRINKS there", x.gap(0, 1, 1, 3), 100);
        Due.is("sell: ml SOLD of KIND 0", x.all(0, 0), 3030);
        Due.is("sell: ml SOLD of KIND 1", x.all(1, 0), 1572);
        Due.is("sell: TAKINGS 0", x.takings(0), 2400);
        Due.is("sell: TAKINGS 1", x.takings(1), 90000);
        x.priceRule(1, 600, 700, 33);
        Due.is("sell: by the PRICE then, each cut", x.sell(0, 1, 3, 0, 600), 495);
        x.rule(4, 200);
        Due.is("sell: FLOOR for each", x.sell(0, 1, 3, 0, 699), 600);
        Due.is("sell: the RULE is over", x.sell(0, 1, 3, 0, 700), 1500);
        Due.is("sell: TAKINGS in all", x.takings(0), 4995);
        x.recipe(70);
        x.rule(4, 0);
        Due.is("sell: a RECIPE without PARTS", x.sell(0, 2, 2, 0, 0), 140);
        Due.is("sell: it takes nothing", x.has(0, 0), -30);
        Due.is("sell: it is an act", x.undo(), 3);
    }

    private static void promise9SellOfAllKinds() {
        BarMeasure x = new BarMeasure();
        x.recipe(10);
        for (int kind = 0; kind < 10; kind++) {
            x.kind(0, 1000, 100);
            x.part(0, kind, kind + 1);
        }
        x.sell(0, 0, 2, 0, 0);
        for (int kind = 0; kind < 10; kind++) {
            Due.is("sell: of KIND " + kind, x.has(0, kind), -12 * (kind + 1));
            Due.is("sell: DRINKS of KIND " + kind, x.gap(0, 0, kind, 3), 2);
        }
        x.undo();
        Due.is("sell: the last KIND UNDONE", x.has(0, 9), 0);
    }

    private static void promise9SellBad() {
        BarMeasure x = twoKinds();
        for (int far : new int[] {-1, 2, LEAST, MOST}) {
            Due.is("sell: bar " + far, x.sell(far, 0, 1, 0, 0), -1);
            Due.is("sell: RECIPE " + far, x.sell(0, far, 1, 0, 0), -1);
        }
        for (int far : new int[] {0, -1, 101, LEAST, MOST}) {
            Due.is("sell: n " + far, x.sell(0, 0, far, 0, 0), -1);
        }
        for (int far : new int[] {-1, 7, LEAST, MOST}) {
            Due.is("sell: DAY " + far, x.sell(0, 0, 1, far, 0), -1);
        }
        for (int far : new int[] {-1, 1440, LEAST, MOST}) {
            Due.is("sell: minute " + far, x.sell(0, 0, 1, 0, far), -1);
        }
        Due.is("sell: nothing SOLD", x.all(0, 0), 0);
        Due.is("sell: nothing taken", x.takings(0), 0);
        Due.is("sell: no act", x.count(3), 0);
        Due.is("sell: PARTS are free", x.part(0, 0, 5), 5);
    }

    private static void promise10Lose() {
        BarMeasure x = twoKinds();
        for (int far : new int[] {-1, 2, LEAST, MOST}) {
            Due.is("lose: bar " + far, x.lose(far, 0, 0, 1), FAR_BAD);
            Due.is("lose: KIND " + far, x.lose(0, far, 0, 1), FAR_BAD);
            Due.is("lose: what " + far, x.lose(0, 0, far, 1), FAR_BAD);
        }
        for (int far : new int[] {0, -1, 10001, LEAST, MOST}) {
            Due.is("lose: ml " + far, x.lose(0, 0, 0, far), FAR_BAD);
        }
        Due.is("lose: SPILT, below 0", x.lose(0, 0, 0, 1), -1);
        Due.is("lose: GIVEN", x.lose(0, 0, 1, 10000), -10001);
        Due.is("lose: the other BAR", x.lose(1, 0, 1, 30), -30);
        Due.is("lose: all SPILT", x.all(0, 1), 1);
        Due.is("lose: all GIVEN", x.all(0, 2), 10030);
        Due.is("lose: not SOLD", x.all(0, 0), 0);
        Due.is("lose: no GAPS", x.all(0, 3), 0);
        Due.is("lose: another KIND", x.has(0, 1), 0);
        Due.is("lose: no DRINKS", x.gap(0, 0, 0, 3), 0);
    }

    private static void promise11Weigh() {
        BarMeasure x = twoKinds();
        x.receive(0, 10);
        x.issue(0, 0, 3);
        Due.is("weigh: 1 bottle and 463 grams, cut", x.weigh(0, 0, 1, 463), 1333);
        Due.is("weigh: THE BOOK is FOUND", x.has(0, 0), 767);
        Due.is("weigh: once a NIGHT", x.weigh(0, 0, 1, 463), FAR_NO);
        Due.is("weigh: nothing changed", x.has(0, 0), 767);
        Due.is("weigh: the other BAR, less than TARE", x.weigh(1, 0, 0, 399), 0);
        Due.is("weigh: lost by GAPS", x.all(0, 3), 1333);
        Due.is("weigh: another KIND, most numbers", x.weigh(0, 1, 50, 5000), -55000);
        Due.is("weigh: THE BOOK of that", x.has(0, 1), 55000);
        Due.is("weigh: GAPS below 0", x.all(1, 3), -55000);
        Due.is("weigh: acts", x.count(3), 5);
        x.night();
        Due.is("weigh: TARE alone", x.weigh(0, 0, 1, 400), 67);
        Due.is("weigh: 1 gram above", x.weigh(1, 0, 0, 401), -1);
        Due.is("weigh: 0 grams", x.weigh(0, 1, 55, 0), FAR_BAD);
        Due.is("weigh: exactly THE BOOK", x.weigh(0, 1, 50, 5000), 0);
        Due.is("weigh: lost by GAPS in all", x.all(0, 3), 1399);
        x.lose(0, 0, 0, 20);
        Due.is("weigh: THE GAP stays as it was", x.gap(1, 0, 0, 0), 67);
        x.undo();
        Due.is("weigh: undone acts free no other", x.weigh(1, 0, 0, 400), FAR_NO);
    }

    private static void promise11WeighBad() {
        BarMeasure x = twoKinds();
        for (int far : new int[] {-1, 2, LEAST, MOST}) {
            Due.is("weigh: bar " + far, x.weigh(far, 0, 0, 0), FAR_BAD);
            Due.is("weigh: KIND " + far, x.weigh(0, far, 0, 0), FAR_BAD);
        }
        for (int far : new int[] {-1, 51, LEAST, MOST}) {
            Due.is("weigh: bottles " + far, x.weigh(0, 0, far, 0), FAR_BAD);
        }
        for (int far : new int[] {-1, 5001, LEAST, MOST}) {
            Due.is("weigh: grams " + far, x.weigh(0, 0, 0, far), FAR_BAD);
        }
        Due.is("weigh: nothing WEIGHED", x.gap(0, 0, 0, 0), FAR_NONE);
        Due.is("weigh: nothing there", x.weigh(0, 0, 0, 0), 0);
        Due.is("weigh: BAD ahead of NO", x.weigh(0, 0, 51, 0), FAR_BAD);
        Due.is("weigh: NO", x.weigh(0, 0, 50, 0), FAR_NO);
    }

    private static void promise12UndoEachAct() {
        BarMeasure x = twoKinds();
        x.receive(0, 9);
        x.issue(1, 0, 4);
        x.lend(1, 0, 300);
        x.sell(1, 0, 7, 2, 2);
        x.lose(1, 0, 0, 11);
        x.lose(1, 0, 1, 12);
        x.weigh(1, 0, 2, 500);
        int gap = x.gap(0, 1, 0, 0);
        Due.is("undo: THE GAP", gap, 2267 - 1506);
        Due.is("undo: WEIGHED", x.undo(), 6);
        Due.is("undo: THE BOOK before", x.has(1, 0), 2267);
        Due.is("undo: no GAP", x.gap(0, 1, 0, 0), FAR_NONE);
        Due.is("undo: not TOLD", x.gap(0, 1, 0, 2), 0);
        Due.is("undo: GAPS in all", x.all(0, 3), 0);
        Due.is("undo: WEIGHED again", x.weigh(1, 0, 2, 400), 867);
        Due.is("undo: WEIGHED again UNDONE", x.undo(), 6);
        Due.is("undo: GIVEN", x.undo(), 5);
        Due.is("undo: GIVEN in all", x.all(0, 2), 0);
        Due.is("undo: THE BOOK ahead of GIVEN", x.has(1, 0), 2279);
        Due.is("undo: SPILT", x.undo(), 4);
        Due.is("undo: SPILT in all", x.all(0, 1), 0);
        Due.is("undo: THE BOOK ahead of SPILT", x.has(1, 0), 2290);
        x.priceRule(127, 0, 0, 50);
        Due.is("undo: SOLD", x.undo(), 3);
        Due.is("undo: SOLD in all", x.all(0, 0), 0);
        Due.is("undo: SOLD of the other KIND", x.has(1, 1), 0);
        Due.is("undo: DRINKS", x.gap(0, 1, 0, 3), 0);
        Due.is("undo: TAKINGS, by PRICE then", x.takings(1), 0);
        Due.is("undo: THE BOOK ahead of SOLD", x.has(1, 0), 2500);
        Due.is("undo: LENT", x.undo(), 2);
        Due.is("undo: THE BOOK ahead of LENT", x.has(1, 0), 2800);
        Due.is("undo: the other one's", x.has(0, 0), 0);
        Due.is("undo: ISSUED", x.undo(), 1);
        Due.is("undo: THE BOOK ahead of ISSUED", x.has(1, 0), 0);
        Due.is("undo: THE STORE ahead of ISSUED", x.has(2, 0), 9);
        Due.is("undo: RECEIVED", x.undo(), 0);
        Due.is("undo: THE STORE", x.has(2, 0), 0);
        Due.is("undo: RECEIVED in all", x.all(0, 4), 0);
        Due.is("undo: none", x.undo(), -2);
        Due.is("undo: count", x.count(3), 0);
    }

    private static void promise12UndoKeeps40() {
        BarMeasure x = twoKinds();
        for (int i = 1; i <= 45; i++) {
            x.receive(0, i % 3 + 1);
            Due.is("undo: kept", x.count(3), Math.min(i, 40));
        }
        for (int i = 0; i < 10; i++) {
            Due.is("undo: of 40", x.undo(), 0);
        }
        Due.is("undo: 30 are kept", x.count(3), 30);
        x.issue(0, 0, 1);
        Due.is("undo: 31 are kept", x.count(3), 31);
        Due.is("undo: the latest first", x.undo(), 1);
        for (int i = 0; i < 30; i++) {
            Due.is("undo: of 30", x.undo(), 0);
        }
        Due.is("undo: those ahead stay", x.undo(), -2);
        Due.is("undo: five of them", x.has(2, 0), 2 + 3 + 1 + 2 + 3);
        for (int i = 0; i < 100; i++) {
            x.lose(0, 0, 0, 1);
        }
        x.lose(0, 0, 1, 1);
        Due.is("undo: round the ring", x.undo(), 5);
        for (int i = 0; i < 39; i++) {
            Due.is("undo: round the ring", x.undo(), 4);
        }
        Due.is("undo: round the ring, none", x.undo(), -2);
        Due.is("undo: 61 stay", x.has(0, 0), -61);
    }

    private static void promise12UndoAcrossNights() {
        BarMeasure x = twoKinds();
        x.receive(0, 5);
        x.night();
        Due.is("undo: of this NIGHT alone", x.undo(), -2);
        Due.is("undo: it stays", x.has(2, 0), 5);
        x.issue(0, 0, 5);
        Due.is("undo: of this NIGHT", x.undo(), 1);
        Due.is("undo: no more", x.undo(), -2);
        x.keeper(0, 1);
        x.rule(0, 9);
        x.kind(0, 100, 100);
        Due.is("undo: these are no acts", x.undo(), -2);
        Due.is("undo: a KEEPER stays", x.keeper(0, 1), 1);
    }

    private static void promise13Keeper() {
        BarMeasure x = twoKinds();
        for (int far : new int[] {-1, 2, LEAST, MOST}) {
            Due.is("keeper: bar " + far, x.keeper(far, 0), -1);
        }
        for (int far : new int[] {-1, 3, LEAST, MOST}) {
            Due.is("keeper: " + far, x.keeper(0, far), -1);
        }
        Due.is("keeper: 0 at first", x.keeper(0, 2), 0);
        Due.is("keeper: the other BAR's is 0", x.keeper(1, 1), 0);
        Due.is("keeper: what it was", x.keeper(0, 1), 2);
        x.night();
        Due.is("keeper: it stays", x.gap(1, 0, 0, 4), 1);
        Due.is("keeper: what it was the NIGHT ahead", x.keeper(0, 0), 1);
        Due.is("keeper: of the NIGHT ahead", x.gap(0, 0, 0, 4), 1);
        Due.is("keeper: of this NIGHT", x.gap(1, 0, 0, 4), 0);
        Due.is("keeper: of the other BAR", x.gap(1, 1, 0, 4), 1);
        Due.is("keeper: no act", x.count(3), 0);
    }

    private static void promise14Night() {
        BarMeasure x = twoKinds();
        x.receive(0, 9);
        x.issue(0, 0, 9);
        x.sell(0, 0, 5, 0, 0);
        x.weigh(0, 0, 1, 400);
        Due.is("night: 1", x.night(), 1);
        Due.is("night: count", x.count(2), 1);
        Due.is("night: DRINKS begin anew", x.gap(1, 0, 0, 3), 0);
        Due.is("night: DRINKS of the NIGHT ahead", x.gap(0, 0, 0, 3), 5);
        Due.is("night: THE BOOK stays", x.has(0, 0), 700);
        Due.is("night: TAKINGS stay", x.takings(0), 4500);
        Due.is("night: no acts are kept", x.count(3), 0);
        Due.is("night: may be WEIGHED again", x.weigh(0, 0, 1, 400), 0);
        for (int i = 2; i <= 19; i++) {
            Due.is("night: " + i, x.night(), i);
        }
        x.sell(0, 0, 2, 0, 0);
        Due.is("night: FULL", x.night(), -3);
        Due.is("night: nothing changes", x.count(2), 19);
        Due.is("night: acts are still kept", x.count(3), 1);
        Due.is("night: DRINKS stay", x.gap(19, 0, 0, 3), 2);
        Due.is("night: the last one may be WEIGHED", x.weigh(1, 1, 0, 0), 0);
    }
}
