import java.util.NoSuchElementException;

/** Promises 7 to 65, each with answers worked out by hand from the document. */
public final class PromisesTest {
    private static final Due DUE = new Due();
    private static final int NONE = FishGrader.NONE;
    private static final String PLAIN = "grader reference 100 margin 0 limit 0 pool 0";

    public static void main(String[] args) {
        items();
        weights();
        scores();
        species();
        fates();
        openBoxes();
        closedBoxes();
        worstBoxes();
        iceOrder();
        iceStore();
        stops();
        lateBoxes();
        quotas();
        means();
        cases();
        rules();
        pools();
        whatIfs();
        firsts();
        bestRules();
        bestMoves();
        bestLimits();
        combinations();
        lookaheads();
        advances();
        combines();
        releases();
        addedItems();
        settings();
        movedQuotas();
        undos();
        saves();
        labels();
        reports();
        manyBoxes();
        fullPool();
        loadsAfterIce();
        DUE.end();
    }

    /** Items of whole weights for a reference of 100: each weighs its reading. */
    private static String items(String species, int... weights) {
        StringBuilder text = new StringBuilder();
        for (int weight : weights) {
            text.append(";item ").append(weight).append(" 100 vote ").append(species).append(" 9");
        }
        return text.toString();
    }

    private static String species(String name, int target, int quota, int boxes, int price) {
        return ";species " + name + " target " + target + " quota " + quota + " boxes " + boxes + " price " + price;
    }

    private static void items() {
        DUE.part("promises 7 and 8");
        FishGrader g = Due.load(PLAIN + species("a", 10, 10, 1, 1) + species("b", 10, 10, 1, 1) + items("a", 1, 2, 3));
        DUE.same("items", g.items(), 3);
        DUE.same("speciesCount", g.speciesCount(), 2);
        g.addItem(1, 1, 0, 1);
        DUE.same("items", g.items(), 4);
    }

    private static void weights() {
        DUE.part("promise 9");
        FishGrader g = Due.load("grader reference 7 margin 0 limit 0 pool 0" + species("a", 10, 10, 1, 1)
                + ";item 1 2;item 5 14;item 4 14;item 1 7 and 1 7 and 1 7;item 2 7 and 3 14;item 0 1;item 3 6 and 0 9");
        DUE.same("7 / 2, halves up", g.weight(0), 4);
        DUE.same("35 / 14, halves up", g.weight(1), 3);
        DUE.same("28 / 14", g.weight(2), 2);
        DUE.same("21 / 21", g.weight(3), 1);
        DUE.same("35 / 21", g.weight(4), 2);
        DUE.same("0", g.weight(5), 0);
        DUE.same("21 / 15", g.weight(6), 1);
        DUE.index("weight(-1)", () -> g.weight(-1));
        DUE.index("weight(7)", () -> g.weight(7));
        FishGrader h = Due.load("grader reference 9999 margin 0 limit 0 pool 0" + species("a", 10, 10, 1, 1)
                + ";item 20000 1 and 20000 1 and 20000 1;item 6 1;item 7 1;item 20000 9999"
                + ";item 20000 3333;item 20000 3332");
        DUE.same("at most 60000", h.weight(0), 60000);
        DUE.same("6 * 9999", h.weight(1), 59994);
        DUE.same("7 * 9999", h.weight(2), 60000);
        DUE.same("20000", h.weight(3), 20000);
        DUE.same("20000 * 3", h.weight(4), 60000);
        DUE.same("more than 60000", h.weight(5), 60000);
    }

    private static final String VOTES = "grader reference 100 margin 5 limit 0 pool 0" + species("a", 10, 10, 1, 1)
            + species("b", 10, 10, 1, 1) + species("c", 10, 10, 1, 1)
            + ";item 1 1;item 1 1 vote b 4;item 1 1 vote b 5;item 1 1 vote a 3 vote b 9 vote a 3 vote c 5 vote b 2"
            + ";item 1 1 vote c 99 vote a 99;item 1 1 vote c 9 vote b 5;item 1 1 vote c 5 vote b 3 vote a 8";

    private static void scores() {
        DUE.part("promises 10 and 14");
        FishGrader g = Due.load(VOTES);
        DUE.same("score(0, 0)", g.score(0, 0), 0);
        DUE.same("score(3, 0)", g.score(3, 0), 6);
        DUE.same("score(3, 1)", g.score(3, 1), 11);
        DUE.same("score(3, 2)", g.score(3, 2), 5);
        DUE.index("score(7, 0)", () -> g.score(7, 0));
        DUE.index("score(-1, 0)", () -> g.score(-1, 0));
        DUE.index("score(0, 3)", () -> g.score(0, 3));
        DUE.index("score(0, -1)", () -> g.score(0, -1));
        DUE.same("agreement(0)", g.agreement(0), 0);
        DUE.same("agreement(1)", g.agreement(1), 4);
        DUE.same("agreement(3)", g.agreement(3), 5);
        DUE.same("agreement(4)", g.agreement(4), 0);
        DUE.same("agreement(5)", g.agreement(5), 4);
        DUE.same("agreement(6)", g.agreement(6), 3);
        DUE.index("agreement(7)", () -> g.agreement(7));
        DUE.index("agreement(-1)", () -> g.agreement(-1));
        FishGrader one = Due.load(PLAIN + species("a", 10, 10, 1, 1) + ";item 1 1 vote a 7 vote a 8;item 1 1");
        DUE.same("one species", one.agreement(0), 15);
        DUE.same("one species, no vote", one.agreement(1), 0);
    }

    private static void species() {
        DUE.part("promise 11");
        FishGrader g = Due.load(VOTES);
        int[] due = {NONE, NONE, 1, 1, NONE, NONE, NONE};
        for (int i = 0; i < due.length; i++) {
            DUE.same("speciesOf(" + i + ")", g.speciesOf(i), due[i]);
        }
        DUE.index("speciesOf(7)", () -> g.speciesOf(7));
        DUE.index("speciesOf(-1)", () -> g.speciesOf(-1));
        FishGrader h = Due.load(VOTES.replace("margin 5", "margin 0"));
        int[] dueThen = {NONE, 1, 1, 1, 0, 2, 0};
        for (int i = 0; i < dueThen.length; i++) {
            DUE.same("margin 0: speciesOf(" + i + ")", h.speciesOf(i), dueThen[i]);
        }
    }

    /** Items: closed, rejected, discarded, open, pooled, not handled. */
    private static FishGrader allFates() {
        FishGrader g = Due.load("grader reference 100 margin 0 limit 5 pool 1" + species("a", 100, 1000, 1, 1)
                + species("b", 100, 10, 3, 1) + items("a", 100) + ";item 7 100" + items("b", 11)
                + items("a", 60, 90, 20) + items("b", 6));
        g.advance(5);
        return g;
    }

    private static void fates() {
        DUE.part("promises 12, 13 and 33");
        FishGrader g = allFates();
        int[] fates = {5, 1, 2, 4, 3, 0, 0};
        int[] boxes = {0, NONE, NONE, 0, NONE, NONE, NONE};
        for (int i = 0; i < fates.length; i++) {
            DUE.same("stateOf(" + i + ")", g.stateOf(i), fates[i]);
            DUE.same("boxOf(" + i + ")", g.boxOf(i), boxes[i]);
        }
        DUE.same("rejected", g.rejected(), 1);
        DUE.index("stateOf(7)", () -> g.stateOf(7));
        DUE.index("stateOf(-1)", () -> g.stateOf(-1));
        DUE.index("boxOf(7)", () -> g.boxOf(7));
        DUE.index("boxOf(-1)", () -> g.boxOf(-1));
        FishGrader h = Due.load(PLAIN + species("a", 100, 1000, 2, 1) + items("a", 60, 60, 40, 40));
        h.advance(2);
        DUE.same("stateOf(1)", h.stateOf(1), 4);
        DUE.same("boxOf(0)", h.boxOf(0), 0);
        DUE.same("boxOf(1)", h.boxOf(1), 1);
        h.advance(2);
        DUE.same("boxOf(2)", h.boxOf(2), 0);
        DUE.same("boxOf(0)", h.boxOf(0), 0);
        DUE.same("boxOf(1)", h.boxOf(1), 1);
        DUE.same("boxOf(3)", h.boxOf(3), 1);
        DUE.same("stateOf(3)", h.stateOf(3), 5);
    }

    private static void openBoxes() {
        DUE.part("promises 15 and 16");
        FishGrader g = Due.load(PLAIN + species("a", 100, 1000, 2, 1) + species("b", 100, 1000, 3, 1)
                + items("a", 60, 30, 50) + items("b", 7, 0));
        DUE.same("content at first", g.content(0, 0), 0);
        g.advance(5);
        DUE.same("content(0, 0)", g.content(0, 0), 90);
        DUE.same("itemsIn(0, 0)", g.itemsIn(0, 0), 2);
        DUE.same("content(0, 1)", g.content(0, 1), 50);
        DUE.same("itemsIn(0, 1)", g.itemsIn(0, 1), 1);
        DUE.same("content(1, 0)", g.content(1, 0), 7);
        DUE.same("itemsIn(1, 0)", g.itemsIn(1, 0), 2);
        DUE.same("content(1, 2)", g.content(1, 2), 0);
        DUE.same("itemsIn(1, 2)", g.itemsIn(1, 2), 0);
        for (int[] bad : new int[][] {{0, 2}, {0, -1}, {1, 3}, {2, 0}, {-1, 0}}) {
            DUE.index("content" + bad[0] + "," + bad[1], () -> g.content(bad[0], bad[1]));
            DUE.index("itemsIn" + bad[0] + "," + bad[1], () -> g.itemsIn(bad[0], bad[1]));
        }
    }

    private static void closedBoxes() {
        DUE.part("promises 17 to 22");
        FishGrader g = Due.load("grader reference 100 margin 0 limit 50 pool 0;ice 50 60 100 0 0"
                + species("a", 100, 1000, 1, 1) + species("b", 80, 1000, 1, 1) + items("a", 60, 70)
                + items("b", 80) + items("a", 10));
        DUE.same("closed at first", g.closed(), 0);
        DUE.index("closedWeight(0)", () -> g.closedWeight(0));
        g.advance(3);
        DUE.same("closed", g.closed(), 2);
        DUE.same("closedSpecies(0)", g.closedSpecies(0), 0);
        DUE.same("closedSpecies(1)", g.closedSpecies(1), 1);
        DUE.same("closedWeight(0)", g.closedWeight(0), 130);
        DUE.same("closedWeight(1)", g.closedWeight(1), 80);
        DUE.same("giveaway(0)", g.giveaway(0), 30);
        DUE.same("giveaway(1)", g.giveaway(1), 0);
        DUE.same("closedAt(0)", g.closedAt(0), 2);
        DUE.same("closedAt(1)", g.closedAt(1), 3);
        DUE.same("icedAt(0)", g.icedAt(0), 3);
        DUE.same("icedAt(1)", g.icedAt(1), NONE);
        g.setTarget(0, 50);
        DUE.same("giveaway(0) after setTarget", g.giveaway(0), 30);
        for (int bad : new int[] {-1, 2, Integer.MAX_VALUE}) {
            DUE.index("closedSpecies", () -> g.closedSpecies(bad));
            DUE.index("closedWeight", () -> g.closedWeight(bad));
            DUE.index("giveaway", () -> g.giveaway(bad));
            DUE.index("closedAt", () -> g.closedAt(bad));
            DUE.index("icedAt", () -> g.icedAt(bad));
        }
    }

    private static void worstBoxes() {
        DUE.part("promise 24");
        FishGrader g = Due.load("grader reference 100 margin 0 limit 50 pool 0" + species("a", 100, 1000, 1, 1)
                + items("a", 105, 120, 105, 100, 120));
        g.advance(5);
        int[] due = {1, 4, 0, 2, 3};
        for (int i = 0; i < due.length; i++) {
            DUE.same("worstBox(" + i + ")", g.worstBox(i), due[i]);
        }
        DUE.index("worstBox(5)", () -> g.worstBox(5));
        DUE.index("worstBox(-1)", () -> g.worstBox(-1));
    }

    private static void iceOrder() {
        DUE.part("promise 23 and section 3 (b)");
        // A tick makes 50: the first box needs 60, the second one 10, the third one 40.
        FishGrader g = Due.load("grader reference 100 margin 0 limit 999 pool 0;ice 50 50 100 0 0"
                + species("a", 10, 1000, 1, 1) + items("a", 120, 20, 80));
        g.advance(1);
        DUE.same("nextIced(0)", g.nextIced(0), 0);
        DUE.index("nextIced(1)", () -> g.nextIced(1));
        DUE.index("nextIced(-1)", () -> g.nextIced(-1));
        DUE.same("ice", g.ice(), 50);
        DUE.same("iceNeeded", g.iceNeeded(), 10);
        g.advance(1);
        DUE.same("icedAt(0)", g.icedAt(0), 2);
        DUE.same("ice", g.ice(), 40);
        DUE.same("nextIced(0)", g.nextIced(0), 1);
        g.undo();
        g.undo();
        FishGrader h = Due.load("grader reference 100 margin 0 limit 999 pool 0;ice 50 10 100 9 0"
                + species("a", 10, 1000, 1, 1) + items("a", 120, 20, 80));
        h.advance(5);
        DUE.same("the second box does not overtake", h.icedAt(1), NONE);
        DUE.same("nextIced(0)", h.nextIced(0), 0);
        DUE.same("nextIced(1)", h.nextIced(1), 1);
        DUE.same("nextIced(2)", h.nextIced(2), 2);
        DUE.same("iceNeeded", h.iceNeeded(), 60);
        h.advance(1);
        DUE.same("icedAt(0)", h.icedAt(0), 6);
        DUE.same("ice", h.ice(), 0);
        DUE.same("iceUsed", h.iceUsed(), 60);
        h.advance(1);
        DUE.same("icedAt(1)", h.icedAt(1), 7);
        DUE.same("iceUsed", h.iceUsed(), 70);
    }

    private static void iceStore() {
        DUE.part("promises 29, 30 and 50");
        FishGrader g = Due.load("grader reference 100 margin 0 limit 0 pool 0;ice 33 10 25 0 10"
                + species("a", 10, 1000, 1, 1) + items("a", 10));
        int[] due = {10, 15, 23, 25, 25};
        for (int i = 0; i < due.length; i++) {
            g.advance(1);
            DUE.same("ice at " + (i + 1), g.ice(), due[i]);
        }
        DUE.same("3.3 rounded up", g.iceUsed(), 4);
        DUE.same("iceNeeded", g.iceNeeded(), 0);
        FishGrader none = Due.load(PLAIN + species("a", 10, 1000, 1, 1) + items("a", 10));
        none.advance(1);
        DUE.same("not yet iced", none.icedAt(0), NONE);
        DUE.same("iceNeeded of 0 percent", none.iceNeeded(), 0);
        none.advance(1);
        DUE.same("0 percent is always there", none.icedAt(0), 2);
        FishGrader dry = Due.load("grader reference 100 margin 0 limit 0 pool 0;ice 200 0 0 0 0"
                + species("a", 10, 1000, 1, 1) + items("a", 10, 10));
        dry.advance(9);
        DUE.same("no ice", dry.icedAt(0), NONE);
        DUE.same("iceNeeded", dry.iceNeeded(), 40);
    }

    private static void stops() {
        DUE.part("promise 31 and section 3 (c)");
        FishGrader g = Due.load(PLAIN + ";stop 2 3;stop 3 5;stop 999 999" + species("a", 10, 1000, 1, 1)
                + items("a", 4, 4));
        boolean[] due = {false, true, true, true, true, false};
        for (int i = 0; i < due.length; i++) {
            DUE.same("isStopped(" + (i + 1) + ")", g.isStopped(i + 1) ? 1 : 0, due[i] ? 1 : 0);
        }
        DUE.same("isStopped(998)", g.isStopped(998) ? 1 : 0, 0);
        DUE.same("isStopped(999)", g.isStopped(999) ? 1 : 0, 1);
        DUE.same("isStopped(1000)", g.isStopped(1000) ? 1 : 0, 0);
        DUE.same("isStopped(MAX)", g.isStopped(Integer.MAX_VALUE) ? 1 : 0, 0);
        DUE.argument("isStopped(0)", () -> g.isStopped(0));
        DUE.argument("isStopped(-1)", () -> g.isStopped(-1));
        g.advance(5);
        DUE.same("content", g.content(0, 0), 4);
        g.advance(1);
        DUE.same("content", g.content(0, 0), 8);
    }

    private static void lateBoxes() {
        DUE.part("promises 32 and 39");
        // The box of 11 needs 11 and is due at 3: it is iced at 4 if a tick makes 3, and at 3 if it makes 4.
        String text = "grader reference 100 margin 0 limit 9 pool 0;ice 100 3 99 2 0" + species("a", 11, 1000, 1, 3)
                + species("b", 9, 99, 1, 1) + items("a", 11);
        FishGrader g = Due.load(text);
        g.advance(3);
        DUE.same("at the due time", g.late(), 0);
        DUE.same("earnings", g.earnings(0), 33);
        g.advance(1);
        DUE.same("iced after it", g.icedAt(0), 4);
        DUE.same("late", g.late(), 1);
        DUE.same("half, rounded down", g.earnings(0), 16);
        DUE.same("other species", g.earnings(1), 0);
        FishGrader h = Due.load(text.replace("100 3", "100 4"));
        h.advance(9);
        DUE.same("iced at the due time", h.icedAt(0), 3);
        DUE.same("not late", h.late(), 0);
        DUE.same("earnings", h.earnings(0), 33);
        FishGrader dry = Due.load(text.replace("100 3", "100 0"));
        dry.advance(3);
        DUE.same("not late yet", dry.late(), 0);
        dry.advance(1);
        DUE.same("late without ice", dry.late(), 1);
        dry.setTarget(0, 5);
        DUE.same("the target when it was closed", dry.earnings(0), 16);
        DUE.index("earnings(2)", () -> dry.earnings(2));
        DUE.index("earnings(-1)", () -> dry.earnings(-1));
    }

    private static void quotas() {
        DUE.part("promises 34 to 37");
        FishGrader g = Due.load(PLAIN + species("a", 100, 50, 1, 1) + species("b", 70, 9, 1, 1)
                + items("a", 30, 21, 20, 1) + items("b", 10, 11));
        g.advance(6);
        DUE.same("landed to the quota", g.landed(0), 50);
        DUE.same("discarded", g.discarded(0), 22);
        DUE.same("landed(1)", g.landed(1), 0);
        DUE.same("discarded(1)", g.discarded(1), 21);
        DUE.same("quota", g.quota(0), 50);
        DUE.same("quota(1)", g.quota(1), 9);
        DUE.same("target", g.target(0), 100);
        DUE.same("target(1)", g.target(1), 70);
        DUE.same("stateOf(1)", g.stateOf(1), 2);
        DUE.same("stateOf(2)", g.stateOf(2), 4);
        for (int bad : new int[] {-1, 2}) {
            DUE.index("landed", () -> g.landed(bad));
            DUE.index("discarded", () -> g.discarded(bad));
            DUE.index("quota", () -> g.quota(bad));
            DUE.index("target", () -> g.target(bad));
        }
    }

    private static void means() {
        DUE.part("promises 38 and 40");
        FishGrader g = Due.load("grader reference 100 margin 0 limit 50 pool 0" + species("a", 100, 9999, 1, 1)
                + species("b", 10, 999, 1, 1) + species("c", 10, 999, 1, 1)
                + items("a", 103, 105, 101, 101, 105, 105) + items("b", 10, 10));
        g.advance(8);
        DUE.same("totalGiveaway(0)", g.totalGiveaway(0), 20);
        DUE.same("20/6", g.meanGiveaway(0, false), 10);
        DUE.same("20/6", g.meanGiveaway(0, true), 3);
        DUE.same("0/2", g.meanGiveaway(1, false), 0);
        DUE.same("0/2", g.meanGiveaway(1, true), 1);
        DUE.same("totalGiveaway(2)", g.totalGiveaway(2), 0);
        DUE.same("no box", g.meanGiveaway(2, false), 0);
        DUE.same("no box", g.meanGiveaway(2, true), 1);
        DUE.index("totalGiveaway(3)", () -> g.totalGiveaway(3));
        DUE.index("totalGiveaway(-1)", () -> g.totalGiveaway(-1));
        DUE.index("meanGiveaway(3)", () -> g.meanGiveaway(3, true));
        DUE.index("meanGiveaway(-1)", () -> g.meanGiveaway(-1, false));
    }

    private static void cases() {
        DUE.part("section 3 (c), cases");
        // Boxes of 60, 70 and 70 by rule 2; then 35 fits the second best of all, the box of 70 with the lowest place.
        FishGrader g = Due.load("grader reference 100 margin 0 limit 5 pool 1" + species("a", 100, 9999, 3, 1)
                + items("a", 60, 70, 70, 35, 36, 45, 90, 80));
        g.setRule(2);
        g.advance(3);
        DUE.same("content(0, 0)", g.content(0, 0), 60);
        DUE.same("content(0, 1)", g.content(0, 1), 70);
        DUE.same("content(0, 2)", g.content(0, 2), 70);
        DUE.same("case 1 closes", g.advance(1), 1);
        DUE.same("of equal ones the lowest place", g.content(0, 1), 0);
        DUE.same("giveaway at the limit", g.giveaway(0), 5);
        g.advance(1);
        DUE.same("case 2", g.content(0, 1), 36);
        g.setLimit(4);
        g.advance(1);
        DUE.same("over the limit: case 2", g.content(0, 1), 81);
        g.advance(1);
        DUE.same("case 3", g.pooled(), 1);
        DUE.same("case 4", g.advance(1), 1);
        DUE.same("the smallest sum", g.content(0, 0), 0);
        DUE.same("closedWeight", g.closedWeight(1), 140);
        // Case 4 with equal sums, and a box at the target by case 1 before case 2.
        FishGrader h = Due.load(PLAIN + species("a", 100, 9999, 2, 1) + items("a", 60, 60, 70, 40, 50, 50));
        h.advance(3);
        DUE.same("lowest place", h.content(0, 0), 0);
        DUE.same("giveaway", h.giveaway(0), 30);
        h.advance(1);
        DUE.same("case 1 exactly", h.content(0, 1), 0);
        DUE.same("giveaway", h.giveaway(1), 0);
    }

    private static FishGrader ruled(int rule) {
        FishGrader g = Due.load(PLAIN + species("a", 100, 9999, 3, 1) + items("a", 50, 70, 60, 10, 10));
        g.setRule(rule);
        g.advance(5);
        return g;
    }

    private static void rules() {
        DUE.part("promises 26 and 55, section 3 (c), case 2");
        int[][] due = {{70, 70, 60}, {50, 90, 60}, {70, 70, 60}};
        for (int rule = 0; rule < 3; rule++) {
            FishGrader g = ruled(rule);
            DUE.same("rule", g.rule(), rule);
            for (int place = 0; place < 3; place++) {
                DUE.same("rule " + rule + ", place " + place, g.content(0, place), due[rule][place]);
            }
        }
        FishGrader g = Due.load(PLAIN + species("a", 100, 9999, 2, 1) + items("a", 60, 50, 20, 20));
        g.setRule(2);
        g.advance(4);
        DUE.same("smallest", g.content(0, 0), 80);
        DUE.same("smallest", g.content(0, 1), 70);
        FishGrader h = Due.load(PLAIN + species("a", 100, 9999, 2, 1) + items("a", 60, 60, 20, 10));
        h.setRule(1);
        h.advance(4);
        DUE.same("greatest, lowest place", h.content(0, 0), 90);
        DUE.same("other", h.content(0, 1), 60);
        DUE.argument("setRule(3)", () -> h.setRule(3));
        DUE.argument("setRule(-1)", () -> h.setRule(-1));
        DUE.same("setRule", h.setRule(0), 1);
        DUE.same("setRule", h.setRule(0), 0);
    }

    /** Pool: items 1, 3 (of b), 4, 5; box (0, 0) holds 60 and box (1, 0) holds 50. */
    private static FishGrader pooled() {
        FishGrader g = Due.load("grader reference 100 margin 0 limit 0 pool 4;ice 10 0 0 3 0"
                + species("a", 100, 9999, 1, 2) + species("b", 90, 999, 1, 1)
                + items("a", 60, 50) + items("b", 50, 60) + items("a", 45, 70));
        g.advance(6);
        return g;
    }

    private static void pools() {
        DUE.part("promises 27 and 28");
        FishGrader g = pooled();
        DUE.same("pooled", g.pooled(), 4);
        int[] due = {1, 3, 4, 5};
        for (int i = 0; i < due.length; i++) {
            DUE.same("poolItem(" + i + ")", g.poolItem(i), due[i]);
        }
        DUE.index("poolItem(4)", () -> g.poolItem(4));
        DUE.index("poolItem(-1)", () -> g.poolItem(-1));
        FishGrader none = Due.load(PLAIN + species("a", 100, 9999, 1, 1) + items("a", 60, 60));
        none.advance(2);
        DUE.same("no pool", none.pooled(), 0);
        DUE.same("no pool", none.closed(), 1);
    }

    private static void whatIfs() {
        DUE.part("promises 41 and 42");
        FishGrader g = Due.load("grader reference 100 margin 0 limit 50 pool 0" + species("a", 100, 9999, 1, 1)
                + items("a", 103, 105, 60, 50, 120));
        g.advance(1);
        DUE.same("closedIn(1)", g.closedIn(1), 1);
        DUE.same("closedIn(2)", g.closedIn(2), 1);
        DUE.same("closedIn(100)", g.closedIn(100), 3);
        DUE.same("giveawayIn(1)", g.giveawayIn(1), 5);
        DUE.same("giveawayIn(3)", g.giveawayIn(3), 15);
        DUE.same("giveawayIn(100)", g.giveawayIn(100), 35);
        DUE.same("time", g.time(), 1);
        DUE.same("closed", g.closed(), 1);
        DUE.same("undoable", g.undoable(), 1);
        for (int bad : new int[] {-1, 0, 101}) {
            DUE.argument("closedIn", () -> g.closedIn(bad));
            DUE.argument("giveawayIn", () -> g.giveawayIn(bad));
        }
    }

    private static void firsts() {
        DUE.part("promises 43 and 44");
        FishGrader g = Due.load("grader reference 100 margin 0 limit 50 pool 0;ice 100 0 0 2 0"
                + species("a", 100, 9999, 1, 1) + species("b", 100, 9999, 1, 1) + items("a", 103)
                + items("b", 60) + items("a", 100) + items("b", 50));
        DUE.same("firstClosed(0, 1)", g.firstClosed(0, 1), 1);
        DUE.same("firstClosed(1, 4)", g.firstClosed(1, 4), 4);
        DUE.same("firstClosed(1, 3)", g.firstClosed(1, 3), NONE);
        DUE.same("firstLate(3)", g.firstLate(3), NONE);
        DUE.same("firstLate(4)", g.firstLate(4), 4);
        g.advance(1);
        DUE.same("firstClosed(0, 9)", g.firstClosed(0, 9), 2);
        g.advance(3);
        DUE.same("late", g.late(), 1);
        DUE.same("more late than now", g.firstLate(100), 2);
        DUE.same("time", g.time(), 4);
        g.advance(10);
        DUE.same("none more", g.firstLate(100), NONE);
        DUE.index("firstClosed(2, 0)", () -> g.firstClosed(2, 0));
        DUE.index("firstClosed(-1, 1)", () -> g.firstClosed(-1, 1));
        for (int bad : new int[] {-1, 0, 101}) {
            DUE.argument("firstClosed", () -> g.firstClosed(0, bad));
            DUE.argument("firstLate", () -> g.firstLate(bad));
        }
    }

    private static void bestRules() {
        DUE.part("promise 45");
        FishGrader g = Due.load("grader reference 100 margin 0 limit 99 pool 0" + species("a", 100, 9999, 2, 1)
                + items("a", 20, 30, 90));
        // Rule 0 and 1: 50 + 90 gives away 40. Rule 2: 20 and 30 apart, 20 + 90 gives away 10.
        DUE.same("bestRule(3)", g.bestRule(3), 2);
        DUE.same("no rule closes a box", g.bestRule(2), 0);
        g.setRule(1);
        DUE.same("of none the smallest", g.bestRule(1), 0);
        DUE.same("rule stays", g.rule(), 1);
        FishGrader h = Due.load("grader reference 100 margin 0 limit 0 pool 0" + species("a", 100, 9999, 2, 1)
                + items("a", 50, 60, 30, 10));
        // Rule 0: 80 and 60, then 90 and 60: none. Rule 1: 50 and 90, then 100. Rule 2: as rule 0.
        DUE.same("a rule that closes no box comes last", h.bestRule(4), 1);
        for (int bad : new int[] {-1, 0, 101}) {
            DUE.argument("bestRule", () -> h.bestRule(bad));
        }
    }

    private static void bestMoves() {
        DUE.part("promise 46");
        FishGrader g = Due.load(PLAIN + species("a", 10, 10, 1, 1) + species("b", 10, 50, 1, 1)
                + species("c", 10, 40, 1, 2) + items("a", 10, 10) + items("b", 10, 10, 10) + items("c", 10));
        DUE.same("from b to a", g.bestMove(10, 6), 10);
        DUE.same("before the item comes", g.bestMove(10, 1), NONE);
        DUE.same("from b, not as much as to stop it", g.bestMove(20, 6), 10);
        DUE.same("c has 30 left, b loses one box", g.bestMove(30, 6), 20);
        DUE.same("no such move", g.bestMove(51, 6), NONE);
        DUE.same("quota stays", g.quota(1), 50);
        g.advance(6);
        DUE.same("nothing comes any more", g.bestMove(10, 9), NONE);
        DUE.argument("bestMove(0, 1)", () -> g.bestMove(0, 1));
        DUE.argument("bestMove(1000000, 1)", () -> g.bestMove(1000000, 1));
        DUE.argument("bestMove(1, 0)", () -> g.bestMove(1, 0));
        DUE.argument("bestMove(1, 101)", () -> g.bestMove(1, 101));
        DUE.same("bestMove(999999, 100)", g.bestMove(999999, 100), NONE);
    }

    private static void bestLimits() {
        DUE.part("promise 47");
        // 60 + 75 closes with 35 from a limit of 40 on, which is worth 65; below, 75 waits for a box of its own.
        FishGrader g = Due.load(PLAIN + species("a", 100, 9999, 2, 1) + items("a", 60, 75));
        DUE.same("bestLimit(2)", g.bestLimit(2), 40);
        DUE.same("nothing closes", g.bestLimit(1), 0);
        FishGrader dear = Due.load(PLAIN + species("a", 100, 9999, 2, 1) + items("a", 90, 115));
        DUE.same("115 alone closes with every limit", dear.bestLimit(2), 0);
        DUE.same("limit stays", g.setLimit(5), 0);
        DUE.same("bestLimit(60)", g.bestLimit(60), 40);
        // With 1000 the 1085 closes the box of 10; below, it fills the pool, and the 5000 has to go into the box.
        FishGrader wide = Due.load("grader reference 100 margin 0 limit 0 pool 1" + species("a", 100, 9999, 1, 1)
                + items("a", 10, 1085, 5000));
        DUE.same("1000 is tried", wide.bestLimit(3), 1000);
        FishGrader even = Due.load("grader reference 100 margin 0 limit 0 pool 1" + species("a", 100, 9999, 1, 1)
                + items("a", 60, 140));
        DUE.same("100 given away for a box is as good as none", even.bestLimit(2), 0);
        for (int bad : new int[] {-1, 0, 61}) {
            DUE.argument("bestLimit", () -> g.bestLimit(bad));
        }
    }

    private static void combinations() {
        DUE.part("promise 48");
        FishGrader g = pooled();
        // Box a lacks 40: 50 (bit 0), 45 (bit 2), 70 (bit 3). Box b lacks 40: 60 (bit 1).
        DUE.same("combination(0, 0)", g.combination(0, 0), 4);
        DUE.same("combination(1, 0)", g.combination(1, 0), 2);
        g.setTarget(0, 155);
        DUE.same("95 = 50 + 45", g.combination(0, 0), 5);
        g.setTarget(0, 225);
        DUE.same("all", g.combination(0, 0), 13);
        g.setTarget(0, 226);
        DUE.same("too much", g.combination(0, 0), NONE);
        g.setTarget(0, 60);
        DUE.same("one item at least", g.combination(0, 0), 4);
        DUE.index("combination(0, 1)", () -> g.combination(0, 1));
        DUE.index("combination(2, 0)", () -> g.combination(2, 0));
        DUE.index("combination(-1, 0)", () -> g.combination(-1, 0));
        DUE.index("combination(0, -1)", () -> g.combination(0, -1));
        FishGrader h = Due.load("grader reference 100 margin 0 limit 0 pool 10" + species("a", 100, 9999, 1, 1)
                + items("a", 90, 20, 20, 40, 40, 20));
        h.advance(6);
        DUE.same("pooled", h.pooled(), 5);
        h.setTarget(0, 130);
        DUE.same("40 before 20 + 20, the lower bit", h.combination(0, 0), 4);
        h.setTarget(0, 150);
        DUE.same("20 + 40, the smallest set", h.combination(0, 0), 5);
    }

    private static void lookaheads() {
        DUE.part("promise 49");
        FishGrader g = Due.load(PLAIN + species("a", 100, 60, 2, 1) + species("b", 100, 60, 1, 1)
                + items("a", 30) + items("b", 200) + items("a", 40, 80) + ";item 70 100" + items("a", 35, 75, 0));
        DUE.same("30", g.lookahead(0, 0, 1), NONE);
        DUE.same("30 + 40", g.lookahead(0, 0, 2), NONE);
        DUE.same("30 + 80", g.lookahead(0, 0, 3), 10);
        DUE.same("30 + 40 + 35", g.lookahead(0, 0, 4), 5);
        DUE.same("30 + 75", g.lookahead(0, 0, 5), 5);
        DUE.same("fewer than 12", g.lookahead(0, 0, 12), 5);
        DUE.same("200", g.lookahead(1, 0, 1), 100);
        g.advance(1);
        DUE.same("the box holds 30", g.lookahead(0, 0, 1), NONE);
        DUE.same("30 + 40 + 80", g.lookahead(0, 0, 2), 10);
        DUE.same("the other box is empty", g.lookahead(0, 1, 2), 20);
        g.setTarget(0, 20);
        DUE.same("one item at least", g.lookahead(0, 0, 2), 50);
        DUE.same("an item of no weight", g.lookahead(0, 0, 12), 10);
        g.advance(20);
        DUE.same("no item", g.lookahead(0, 0, 12), NONE);
        DUE.index("lookahead(2, 0, 0)", () -> g.lookahead(2, 0, 0));
        DUE.index("lookahead(-1, 0, 1)", () -> g.lookahead(-1, 0, 1));
        DUE.index("lookahead(0, 2, 1)", () -> g.lookahead(0, 2, 1));
        DUE.index("lookahead(1, 1, 1)", () -> g.lookahead(1, 1, 1));
        DUE.index("lookahead(0, -1, 1)", () -> g.lookahead(0, -1, 1));
        for (int bad : new int[] {-1, 0, 13}) {
            DUE.argument("lookahead", () -> g.lookahead(0, 0, bad));
        }
    }

    private static void advances() {
        DUE.part("promises 25 and 51");
        FishGrader g = Due.load(PLAIN + species("a", 100, 9999, 1, 1) + items("a", 100, 100, 100));
        DUE.same("advance(2)", g.advance(2), 2);
        DUE.same("time", g.time(), 2);
        DUE.same("advance(100)", g.advance(100), 1);
        DUE.same("time", g.time(), 102);
        DUE.same("undoable", g.undoable(), 2);
        for (int bad : new int[] {-1, 0, 101, Integer.MIN_VALUE}) {
            DUE.argument("advance", () -> g.advance(bad));
        }
        DUE.same("undoable", g.undoable(), 2);
        DUE.same("time", g.time(), 102);
    }

    private static void combines() {
        DUE.part("promise 52");
        FishGrader g = pooled();
        g.setTarget(0, 155);
        DUE.same("combine", g.combine(0, 0), 0);
        DUE.same("closed", g.closed(), 1);
        DUE.same("closedWeight", g.closedWeight(0), 155);
        DUE.same("giveaway", g.giveaway(0), 0);
        DUE.same("closedAt", g.closedAt(0), 6);
        DUE.same("time", g.time(), 6);
        DUE.same("content", g.content(0, 0), 0);
        DUE.same("nextIced", g.nextIced(0), 0);
        DUE.same("pooled", g.pooled(), 2);
        DUE.same("poolItem(0)", g.poolItem(0), 3);
        DUE.same("poolItem(1)", g.poolItem(1), 5);
        for (int item : new int[] {0, 1, 4}) {
            DUE.same("stateOf", g.stateOf(item), 5);
            DUE.same("boxOf", g.boxOf(item), 0);
        }
        DUE.same("landed stays", g.landed(0), 225);
        DUE.same("undoable", g.undoable(), 3);
        DUE.fails("combine", NoSuchElementException.class, () -> g.combine(0, 0));
        DUE.same("undoable", g.undoable(), 3);
        DUE.same("combine(1, 0)", g.combine(1, 0), 1);
        g.undo();
        g.undo();
        DUE.same("undone: pooled", g.pooled(), 4);
        DUE.same("undone: poolItem(2)", g.poolItem(2), 4);
        DUE.same("undone: stateOf(4)", g.stateOf(4), 3);
        DUE.same("undone: content", g.content(0, 0), 60);
        DUE.same("undone: closed", g.closed(), 0);
        DUE.index("combine(0, 1)", () -> g.combine(0, 1));
        DUE.index("combine(2, 0)", () -> g.combine(2, 0));
    }

    private static void releases() {
        DUE.part("promise 53");
        FishGrader g = pooled();
        DUE.index("release(4, 0)", () -> g.release(4, 0));
        DUE.index("release(-1, 0)", () -> g.release(-1, 0));
        DUE.index("release(0, 1)", () -> g.release(0, 1));
        DUE.index("release(0, -1)", () -> g.release(0, -1));
        DUE.same("release(2, 0)", g.release(2, 0), 5);
        DUE.same("closedWeight", g.closedWeight(0), 105);
        DUE.same("closedAt", g.closedAt(0), 6);
        DUE.same("boxOf(4)", g.boxOf(4), 0);
        DUE.same("stateOf(4)", g.stateOf(4), 5);
        DUE.same("poolItem(2)", g.poolItem(2), 5);
        DUE.same("release(0, 0)", g.release(0, 0), NONE);
        DUE.same("content", g.content(0, 0), 50);
        DUE.same("stateOf(1)", g.stateOf(1), 4);
        DUE.same("boxOf(1)", g.boxOf(1), 0);
        DUE.same("itemsIn", g.itemsIn(0, 0), 1);
        DUE.same("pooled", g.pooled(), 2);
        DUE.same("its own species", g.release(0, 0), 20);
        DUE.same("closedSpecies", g.closedSpecies(1), 1);
        DUE.same("time", g.time(), 6);
        DUE.same("undo", g.undo(), 3);
        DUE.same("pooled", g.pooled(), 2);
    }

    private static void addedItems() {
        DUE.part("promise 54");
        FishGrader g = Due.load("grader reference 100 margin 5 limit 0 pool 0" + species("a", 100, 9999, 1, 1)
                + species("b", 100, 9999, 1, 1) + items("a", 7));
        DUE.same("addItem", g.addItem(15, 1000, 1, 5), 1);
        DUE.same("weight", g.weight(1), 2);
        DUE.same("score", g.score(1, 1), 5);
        DUE.same("score", g.score(1, 0), 0);
        DUE.same("agreement", g.agreement(1), 5);
        DUE.same("speciesOf", g.speciesOf(1), 1);
        DUE.same("stateOf", g.stateOf(1), 0);
        DUE.same("boxOf", g.boxOf(1), NONE);
        DUE.same("addItem", g.addItem(20000, 1, 0, 4), 2);
        DUE.same("weight", g.weight(2), 60000);
        DUE.same("speciesOf", g.speciesOf(2), NONE);
        DUE.index("addItem, species 2", () -> g.addItem(-1, 0, 2, 0));
        DUE.index("addItem, species -1", () -> g.addItem(1, 1, -1, 1));
        for (int[] bad : new int[][] {{-1, 1, 1}, {20001, 1, 1}, {1, 0, 1}, {1, 10000, 1}, {1, 1, 0}, {1, 1, 100}}) {
            DUE.argument("addItem", () -> g.addItem(bad[0], bad[1], 0, bad[2]));
        }
        g.advance(2);
        DUE.same("content", g.content(1, 0), 2);
        for (int i = 3; i < 80; i++) {
            DUE.same("addItem", g.addItem(i, 9999, 0, 99), i);
        }
        DUE.state("the 81st item", () -> g.addItem(1, 1, 0, 1));
        DUE.index("checked last", () -> g.addItem(1, 1, 2, 1));
        DUE.argument("checked last", () -> g.addItem(1, 1, 0, 0));
        DUE.same("undo", g.undo(), 7);
        DUE.same("items", g.items(), 79);
        DUE.same("addItem again", g.addItem(0, 9999, 1, 6), 79);
        DUE.same("weight", g.weight(79), 0);
        DUE.same("score of the undone item is gone", g.score(79, 0), 0);
    }

    private static void settings() {
        DUE.part("promises 56 and 57");
        FishGrader g = Due.load(PLAIN + species("a", 100, 9999, 1, 1) + species("b", 90, 99, 1, 1)
                + items("a", 60, 45, 1, 7));
        DUE.same("setLimit", g.setLimit(5), 0);
        DUE.same("setLimit", g.setLimit(9999), 5);
        DUE.same("setLimit", g.setLimit(0), 9999);
        DUE.argument("setLimit(-1)", () -> g.setLimit(-1));
        DUE.argument("setLimit(10000)", () -> g.setLimit(10000));
        g.advance(1);
        DUE.same("setTarget", g.setTarget(0, 50), 100);
        DUE.same("target", g.target(0), 50);
        DUE.same("target(1)", g.target(1), 90);
        DUE.same("the box stays open", g.closed(), 0);
        DUE.same("content", g.content(0, 0), 60);
        DUE.same("until an item comes", g.advance(1), 1);
        DUE.same("giveaway", g.giveaway(0), 55);
        DUE.same("setTarget", g.setTarget(0, 30000), 50);
        DUE.same("setTarget", g.setTarget(0, 1), 30000);
        DUE.same("closed by an item of 1", g.advance(1), 1);
        DUE.index("setTarget(2, 0)", () -> g.setTarget(2, 0));
        DUE.index("setTarget(-1, 5)", () -> g.setTarget(-1, 5));
        DUE.argument("setTarget(0, 0)", () -> g.setTarget(0, 0));
        DUE.argument("setTarget(0, 30001)", () -> g.setTarget(0, 30001));
    }

    private static void movedQuotas() {
        DUE.part("promise 58");
        FishGrader g = Due.load(PLAIN + species("a", 100, 50, 1, 1) + species("b", 90, 20, 1, 1) + items("a", 30));
        g.advance(1);
        DUE.index("moveQuota(0, 2, 0)", () -> g.moveQuota(0, 2, 0));
        DUE.index("moveQuota(2, 0, 1)", () -> g.moveQuota(2, 0, 1));
        DUE.index("moveQuota(-1, 0, 1)", () -> g.moveQuota(-1, 0, 1));
        DUE.index("moveQuota(0, -1, 1)", () -> g.moveQuota(0, -1, 1));
        DUE.argument("the same", () -> g.moveQuota(1, 1, 1));
        DUE.argument("amount 0", () -> g.moveQuota(0, 1, 0));
        DUE.argument("amount -1", () -> g.moveQuota(0, 1, -1));
        DUE.argument("amount 1000000", () -> g.moveQuota(0, 1, 1000000));
        DUE.argument("less than landed", () -> g.moveQuota(0, 1, 21));
        DUE.argument("less than amount", () -> g.moveQuota(1, 0, 21));
        DUE.same("undoable", g.undoable(), 1);
        DUE.same("moveQuota(0, 1, 20)", g.moveQuota(0, 1, 20), 30);
        DUE.same("quota(1)", g.quota(1), 40);
        DUE.same("moveQuota(1, 0, 40)", g.moveQuota(1, 0, 40), 0);
        DUE.same("quota(0)", g.quota(0), 70);
        DUE.same("moveQuota(0, 1, 1)", g.moveQuota(0, 1, 1), 69);
        FishGrader rich = Due.load(PLAIN + species("a", 100, 999999, 1, 1) + species("b", 90, 999999, 1, 1));
        DUE.same("all of it", rich.moveQuota(0, 1, 999999), 0);
        DUE.same("more than a text may say", rich.quota(1), 1999998);
    }

    private static void undos() {
        DUE.part("promises 59 and 60");
        FishGrader g = Due.load(PLAIN + species("a", 100, 9999, 1, 1) + items("a", 60, 45));
        DUE.state("undo", () -> g.undo());
        for (int i = 1; i <= 12; i++) {
            g.setLimit(i);
            DUE.same("undoable", g.undoable(), Math.min(i, 8));
        }
        for (int i = 7; i >= 0; i--) {
            DUE.same("undo", g.undo(), i);
        }
        DUE.state("undo", () -> g.undo());
        DUE.same("the limit before the latest eight", g.setLimit(77), 4);
        g.advance(2);
        g.setTarget(0, 7);
        g.undo();
        g.undo();
        DUE.same("time", g.time(), 0);
        DUE.same("stateOf(0)", g.stateOf(0), 0);
        DUE.same("landed", g.landed(0), 0);
        DUE.same("target", g.target(0), 100);
        g.advance(1);
        DUE.same("an undone change is gone", g.undo(), 1);
    }

    private static void saves() {
        DUE.part("promises 61 and 62");
        FishGrader g = Due.load(PLAIN + species("a", 100, 9999, 1, 1) + items("a", 60, 45));
        DUE.state("restore", () -> g.restore());
        g.advance(1);
        g.addItem(33, 100, 0, 9);
        DUE.same("save", g.save(), 1);
        DUE.same("undoable after save", g.undoable(), 2);
        g.undo();
        g.addItem(44, 100, 0, 9);
        g.setRule(1);
        g.setLimit(9);
        g.setTarget(0, 99);
        g.advance(5);
        DUE.same("restore", g.restore(), 1);
        DUE.same("undoable", g.undoable(), 0);
        DUE.state("undo", () -> g.undo());
        DUE.same("time", g.time(), 1);
        DUE.same("the saved item", g.weight(2), 33);
        DUE.same("rule", g.rule(), 0);
        DUE.same("target", g.target(0), 100);
        DUE.same("closed", g.closed(), 0);
        DUE.same("content", g.content(0, 0), 60);
        DUE.same("limit", g.setLimit(1), 0);
        DUE.same("undo", g.undo(), 0);
        g.advance(3);
        DUE.same("restore again", g.restore(), 1);
        DUE.same("content", g.content(0, 0), 60);
        g.advance(3);
        DUE.same("save again", g.save(), 4);
        g.advance(1);
        DUE.same("restore the later one", g.restore(), 4);
    }

    private static void labels() {
        DUE.part("promises 63 and 65");
        FishGrader g = Due.load("grader reference 100 margin 0 limit 50 pool 0;ice 10 11 99 0 0"
                + species("cod", 100, 9999, 1, 1) + species("x", 90, 9999, 1, 1) + items("cod", 105) + items("x", 90));
        g.advance(2);
        DUE.index("labelByte(0)", () -> g.labelByte(0));
        DUE.same("label(0)", Due.written(g, g.label(0)), "cod 105+5 ice2");
        DUE.index("labelByte(14)", () -> g.labelByte(14));
        DUE.index("labelByte(-1)", () -> g.labelByte(-1));
        DUE.same("label(1)", Due.written(g, g.label(1)), "x 90+0 wait");
        DUE.index("labelByte(11)", () -> g.labelByte(11));
        DUE.index("label(2)", () -> g.label(2));
        DUE.index("label(-1)", () -> g.label(-1));
        g.undo();
        DUE.same("the text stays", Due.written(g, 11), "x 90+0 wait");
    }

    private static void reports() {
        DUE.part("promise 64");
        FishGrader g = Due.load("grader reference 100 margin 0 limit 50 pool 0;ice 100 0 0 1 0"
                + species("cod", 101, 9999, 1, 3) + species("ling", 90, 50, 1, 1) + items("cod", 105, 110)
                + items("ling", 60, 50));
        DUE.same("at first", Due.written(g, g.report()), "cod 0x101 0 0/9999 0;ling 0x90 0 0/50 0;all 0 0");
        g.advance(2);
        DUE.same("in time", Due.written(g, g.report()), "cod 2x101 13 215/9999 606;ling 0x90 0 0/50 0;all 2 606");
        g.advance(2);
        g.setTarget(1, 50);
        DUE.same("late", Due.written(g, g.report()), "cod 2x101 13 215/9999 302;ling 0x50 0 50/50 0;all 2 302");
    }

    /** As many items and closed boxes as there can be. */
    private static void manyBoxes() {
        DUE.part("80 items and boxes");
        StringBuilder text = new StringBuilder(PLAIN).append(";ice 100 0 0 0 0").append(species("a", 100, 999999, 3, 2));
        for (int i = 0; i < 60; i++) {
            text.append(";item 1 1 vote a 9");
        }
        FishGrader g = Due.load(text.toString());
        for (int i = 60; i < 80; i++) {
            DUE.same("addItem", g.addItem(i + 41, 100, 0, 9), i);
        }
        DUE.same("lookahead", g.lookahead(0, 2, 12), 0);
        DUE.same("closedIn", g.closedIn(100), 80);
        DUE.same("giveawayIn", g.giveawayIn(100), 210);
        DUE.same("bestLimit", g.bestLimit(60), 0);
        DUE.same("bestRule", g.bestRule(100), 0);
        DUE.same("bestMove", g.bestMove(1, 100), NONE);
        DUE.same("firstLate", g.firstLate(100), 2);
        DUE.same("advance", g.advance(100), 80);
        DUE.same("closed", g.closed(), 80);
        DUE.same("itemsIn", g.itemsIn(0, 0), 0);
        DUE.same("rejected", g.rejected(), 0);
        DUE.same("boxOf(79)", g.boxOf(79), 79);
        DUE.same("closedWeight(79)", g.closedWeight(79), 120);
        DUE.same("worstBox(0)", g.worstBox(0), 79);
        DUE.same("worstBox(79)", g.worstBox(79), 59);
        DUE.index("worstBox(80)", () -> g.worstBox(80));
        DUE.same("nextIced(79)", g.nextIced(79), 79);
        DUE.same("iceNeeded", g.iceNeeded(), 8210);
        DUE.same("late", g.late(), 80);
        DUE.same("label(79)", Due.written(g, g.label(79)), "a 120+20 wait");
        DUE.same("report", Due.written(g, g.report()), "a 80x100 210 8210/999999 8000;all 80 8000");
        DUE.same("save", g.save(), 100);
        DUE.same("restore", g.restore(), 100);
        DUE.state("addItem", () -> g.addItem(1, 1, 0, 1));
    }

    /** A box of 95 and ten items of 10 to 19 in the pool. */
    private static void fullPool() {
        DUE.part("a pool of 10");
        FishGrader g = Due.load("grader reference 100 margin 0 limit 0 pool 10" + species("a", 100, 9999, 1, 2)
                + items("a", 95, 10, 11, 12, 13, 14, 15, 16, 17, 18, 19, 20));
        g.advance(11);
        DUE.same("pooled", g.pooled(), 10);
        DUE.same("poolItem(9)", g.poolItem(9), 10);
        g.setTarget(0, 240);
        DUE.same("all ten", g.combination(0, 0), 1023);
        g.setTarget(0, 239);
        DUE.same("no nine are enough", g.combination(0, 0), 1023);
        g.setTarget(0, 230);
        DUE.same("without the 10", g.combination(0, 0), 1022);
        DUE.same("combine", g.combine(0, 0), 0);
        DUE.same("pooled", g.pooled(), 1);
        DUE.same("poolItem(0)", g.poolItem(0), 1);
        g.undo();
        DUE.same("release(9, 0)", g.release(9, 0), NONE);
        DUE.same("pooled", g.pooled(), 9);
        g.undo();
        g.setTarget(0, 100);
        DUE.same("the pool is full: case 4", g.advance(1), 1);
        DUE.same("closedWeight", g.closedWeight(0), 115);
    }

    private static void loadsAfterIce() {
        DUE.part("a new grader has nothing of the one before");
        FishGrader g = new FishGrader();
        String text = "grader reference 100 margin 0 limit 9 pool 3;ice 10 50 100 1 5;stop 1 1"
                + species("a", 100, 9999, 2, 1) + species("b", 30, 40, 1, 1) + items("a", 100, 70, 70, 70)
                + items("b", 50) + ";item 1 1";
        for (int i = 0; i < 4; i++) {
            Due.append(g, text);
            DUE.same("load", g.load(text.length()), 6);
            DUE.same("ice", g.ice(), 0);
            DUE.same("iceUsed", g.iceUsed(), 0);
            DUE.same("closed", g.closed(), 0);
            DUE.same("pooled", g.pooled(), 0);
            DUE.same("late", g.late(), 0);
            DUE.same("report", Due.written(g, g.report()), "a 0x100 0 0/9999 0;b 0x30 0 0/40 0;all 0 0");
            DUE.same("closedIn", g.closedIn(7), 1);
            g.setRule(1);
            g.advance(7);
            DUE.same("ice", g.ice(), 100);
            DUE.same("iceUsed", g.iceUsed(), 10);
            DUE.same("pooled", g.pooled(), 1);
            DUE.same("rejected", g.rejected(), 1);
            DUE.same("discarded", g.discarded(1), 50);
        }
        String plain = PLAIN + species("c", 100, 9999, 1, 1) + items("c", 100);
        Due.append(g, plain);
        g.load(plain.length());
        DUE.same("isStopped", g.isStopped(1) ? 1 : 0, 0);
        DUE.same("speciesCount", g.speciesCount(), 1);
        g.advance(3);
        DUE.same("ice", g.ice(), 0);
        DUE.same("iced without ice", g.icedAt(0), 2);
        DUE.same("late", g.late(), 1);
        DUE.same("label", Due.written(g, g.label(0)), "c 100+0 ice2");
    }
}
