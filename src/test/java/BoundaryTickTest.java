/** The boundary cases of section 2 (weight and species) and section 3 (a tick), in the order of their sentences. */
public final class BoundaryTickTest {
    private static final Due DUE = new Due();
    private static final int NONE = FishGrader.NONE;

    public static void main(String[] args) {
        halvesUp();
        sumsOfSamples();
        atMost60000();
        scores();
        smallestIndex();
        noVotes();
        margin();
        noOtherSpecies();
        atFirst();
        melt();
        make();
        icingOrder();
        iceRoundedUp();
        iceSuffices();
        icingEnds();
        icedNextTick();
        stopsIncluded();
        stopsLeaveTheRest();
        lastTicksOfStops();
        noItemLeft();
        rejected();
        quotaReached();
        quotaOfNothing();
        caseOne();
        caseOneSmallestSum();
        onlyItsSpecies();
        caseTwo();
        caseTwoTies();
        caseTwoTooFull();
        caseThree();
        caseFour();
        closing();
        emptyBoxOpened();
        earnings();
        DUE.end();
    }

    private static String plain(int limit, int pool) {
        return Lines.head(0, limit, pool);
    }

    private static FishGrader one(int limit, int pool, int boxes, int... weights) {
        return Due.load(plain(limit, pool) + Lines.species("a", 100, 9999, boxes, 1) + Lines.items("a", weights));
    }

    /** Boxes of a target of 100 with these contents, and then one more item by a rule; limit 0, no pool. */
    private static FishGrader put(int rule, int[] contents, int weight) {
        FishGrader g = one(0, 0, contents.length, contents);
        g.setRule(2);
        g.advance(contents.length);
        for (int place = 0; place < contents.length; place++) {
            DUE.same("content before", g.content(0, place), contents[place]);
        }
        g.addItem(weight, 100, 0, 9);
        g.setRule(rule);
        g.advance(1);
        return g;
    }

    private static void contents(FishGrader g, int... due) {
        for (int place = 0; place < due.length; place++) {
            DUE.same("content(0, " + place + ")", g.content(0, place), due[place]);
        }
    }

    // ---- section 2

    private static void halvesUp() {
        DUE.part("section 2: rounded to the nearest integer, halves up");
        FishGrader g = Due.load("grader reference 1 margin 0 limit 0 pool 0" + Lines.species("a", 9, 9, 1, 1)
                + ";item 49 100;item 50 100;item 51 100;item 149 100;item 150 100;item 1 3;item 2 3;item 1 2;item 3 2"
                + ";item 0 9999;item 4999 9999;item 5000 9999;item 20000 9999");
        int[] due = {0, 1, 1, 1, 2, 0, 1, 1, 2, 0, 0, 1, 2};
        for (int i = 0; i < due.length; i++) {
            DUE.same("weight(" + i + ")", g.weight(i), due[i]);
        }
    }

    private static void sumsOfSamples() {
        DUE.part("section 2: the sum of the READINGs times REFERENCE, divided by the sum of the REFs");
        FishGrader g = Due.load("grader reference 10 margin 0 limit 0 pool 0" + Lines.species("a", 9, 9, 1, 1)
                + ";item 1 1 and 0 1 and 0 1;item 1 1 and 1 2 and 1 3;item 1 3 and 1 3;item 1 20 and 0 1");
        int[] due = {3, 5, 3, 0};
        for (int i = 0; i < due.length; i++) {
            DUE.same("weight(" + i + ")", g.weight(i), due[i]);
        }
    }

    private static void atMost60000() {
        DUE.part("section 2: but at most 60000");
        // 11 * 38181 / 7 is 59998.7, 11 * 10909 / 2 is 59999.5.
        FishGrader g = Due.load("grader reference 11 margin 0 limit 0 pool 0" + Lines.species("a", 9, 9, 1, 1)
                + ";item 20000 3 and 18181 4;item 10909 2;item 20000 3 and 20000 4 and 20000 4"
                + ";item 20000 3 and 20000 4 and 20000 3;item 20000 1");
        int[] due = {59999, 60000, 60000, 60000, 60000};
        for (int i = 0; i < due.length; i++) {
            DUE.same("weight(" + i + ")", g.weight(i), due[i]);
        }
        FishGrader most = Due.load("grader reference 9999 margin 0 limit 0 pool 0" + Lines.species("a", 30000, 999999, 1, 1)
                + ";item 20000 1 and 20000 1 and 20000 1 vote a 9;item 6 1;item 20000 9999");
        DUE.same("the greatest there can be", most.weight(0), 60000);
        DUE.same("59994", most.weight(1), 59994);
        DUE.same("20000", most.weight(2), 20000);
        most.advance(1);
        DUE.same("landed", most.landed(0), 60000);
    }

    private static final String VOTERS = Lines.species("a", 9, 9, 1, 1) + Lines.species("b", 9, 9, 1, 1)
            + Lines.species("c", 9, 9, 1, 1) + Lines.species("d", 9, 9, 1, 1);

    private static FishGrader votes(int margin, String votes) {
        return Due.load(Lines.head(margin, 0, 0) + VOTERS + ";item 1 1" + votes);
    }

    private static void scores() {
        DUE.part("section 2: the score is the sum of the CONFIDENCEs of the votes for the species");
        FishGrader g = votes(0, " vote d 99 vote d 99 vote d 99 vote d 99 vote d 99");
        DUE.same("five votes of 99", g.score(0, 3), 495);
        DUE.same("no vote", g.score(0, 0), 0);
        FishGrader mixed = votes(0, " vote a 1 vote b 2 vote a 4 vote d 8 vote b 16");
        int[] due = {5, 18, 0, 8};
        for (int i = 0; i < due.length; i++) {
            DUE.same("score(0, " + i + ")", mixed.score(0, i), due[i]);
        }
    }

    private static void smallestIndex() {
        DUE.part("section 2: the greatest score, of equal ones the smallest index");
        DUE.same("d before c", votes(0, " vote c 5 vote d 6").speciesOf(0), 3);
        DUE.same("c and d", votes(0, " vote d 6 vote c 6").speciesOf(0), 2);
        DUE.same("b, c and d", votes(0, " vote d 6 vote c 6 vote b 6 vote a 5").speciesOf(0), 1);
        DUE.same("all", votes(0, " vote d 6 vote c 6 vote b 6 vote a 6").speciesOf(0), 0);
        DUE.same("by sums", votes(0, " vote a 9 vote b 5 vote b 5").speciesOf(0), 1);
    }

    private static void noVotes() {
        DUE.part("section 2: undetermined if it has no votes");
        DUE.same("margin 0", votes(0, "").speciesOf(0), NONE);
        DUE.same("margin 1", votes(1, "").speciesOf(0), NONE);
        DUE.same("a vote of 1 is enough for margin 0", votes(0, " vote a 1").speciesOf(0), 0);
    }

    private static void margin() {
        DUE.part("section 2: undetermined if the difference is less than MARGIN");
        DUE.same("1, margin 1", votes(1, " vote a 1").speciesOf(0), 0);
        DUE.same("1, margin 2", votes(2, " vote a 1").speciesOf(0), NONE);
        DUE.same("5, margin 5", votes(5, " vote d 9 vote b 4").speciesOf(0), 3);
        DUE.same("4, margin 5", votes(5, " vote d 9 vote b 5").speciesOf(0), NONE);
        DUE.same("the greatest of the others counts", votes(5, " vote d 9 vote a 2 vote b 5 vote c 3").speciesOf(0), NONE);
        DUE.same("also that of the first species", votes(5, " vote d 9 vote a 5").speciesOf(0), NONE);
        DUE.same("not the sum of the others", votes(5, " vote d 9 vote a 4 vote b 4 vote c 4").speciesOf(0), 3);
        DUE.same("equal ones, margin 1", votes(1, " vote d 9 vote a 9").speciesOf(0), NONE);
        DUE.same("equal ones, margin 0", votes(0, " vote d 9 vote a 9").speciesOf(0), 0);
        DUE.same("99, margin 99", votes(99, " vote b 99").speciesOf(0), 1);
        DUE.same("98, margin 99", votes(99, " vote b 98").speciesOf(0), NONE);
    }

    private static void noOtherSpecies() {
        DUE.part("section 2: 0 if there is no other species");
        String text = ";species a target 9 quota 9 boxes 1 price 1;item 1 1 vote a 5;item 1 1 vote a 6;item 1 1";
        FishGrader g = Due.load(Lines.head(6, 0, 0) + text);
        DUE.same("5, margin 6", g.speciesOf(0), NONE);
        DUE.same("6, margin 6", g.speciesOf(1), 0);
        DUE.same("no votes", g.speciesOf(2), NONE);
        DUE.same("agreement", g.agreement(0), 5);
        DUE.same("agreement without votes", g.agreement(2), 0);
    }

    // ---- section 3

    private static void atFirst() {
        DUE.part("section 3: at first all open boxes and the pool are empty, no ice is in the store, the time is 0");
        FishGrader g = Due.load(plain(0, 3) + Lines.ice(1, 50, 99, 1, 1) + Lines.species("a", 100, 99, 3, 1)
                + Lines.species("b", 100, 99, 1, 1) + Lines.items("a", 50));
        contents(g, 0, 0, 0);
        DUE.same("content(1, 0)", g.content(1, 0), 0);
        DUE.same("itemsIn", g.itemsIn(0, 0) + g.itemsIn(0, 1) + g.itemsIn(0, 2) + g.itemsIn(1, 0), 0);
        DUE.same("pooled", g.pooled(), 0);
        DUE.same("ice", g.ice(), 0);
        DUE.same("iceUsed", g.iceUsed(), 0);
        DUE.same("time", g.time(), 0);
        DUE.same("landed", g.landed(0), 0);
        DUE.same("closed", g.closed(), 0);
        DUE.same("stateOf", g.stateOf(0), 0);
    }

    private static void iceIs(String line, int... due) {
        FishGrader g = Due.load(plain(0, 0) + line + Lines.species("a", 100, 99, 1, 1));
        for (int i = 0; i < due.length; i++) {
            g.advance(1);
            DUE.same("ice at time " + (i + 1) + line, g.ice(), due[i]);
        }
    }

    private static void melt() {
        DUE.part("section 3 (a): the ice decreases by MELT percent of it, rounded up");
        iceIs(Lines.ice(0, 100, 500, 0, 1), 100, 199, 297, 394);
        iceIs(Lines.ice(0, 101, 500, 0, 1), 101, 200, 299, 397);
        iceIs(Lines.ice(0, 1, 5, 0, 1), 1, 1, 1);
        iceIs(Lines.ice(0, 2, 50, 0, 50), 2, 3, 3, 3);
        iceIs(Lines.ice(0, 10, 50, 0, 10), 10, 19, 27, 34);
        iceIs(Lines.ice(0, 1, 3, 0, 0), 1, 2, 3, 3);
        DUE.part("section 3 (a): it melts before it grows");
        iceIs(Lines.ice(0, 10, 10, 0, 50), 10, 10);
        iceIs(Lines.ice(0, 4, 10, 0, 50), 4, 6, 7, 7);
    }

    private static void make() {
        DUE.part("section 3 (a): it grows by MAKE, but not above STORE");
        iceIs(Lines.ice(0, 5, 10, 0, 0), 5, 10, 10);
        iceIs(Lines.ice(0, 5, 9, 0, 0), 5, 9, 9);
        iceIs(Lines.ice(0, 5, 11, 0, 0), 5, 10, 11, 11);
        iceIs(Lines.ice(0, 5, 5, 0, 0), 5, 5);
        iceIs(Lines.ice(0, 9999, 3, 0, 50), 3, 3);
        iceIs(Lines.ice(0, 9999, 0, 0, 50), 0, 0);
        iceIs(Lines.ice(0, 0, 99999, 0, 50), 0, 0);
        FishGrader g = Due.load(plain(0, 0) + Lines.ice(0, 9999, 99999, 0, 50) + Lines.species("a", 9, 9, 1, 1));
        g.advance(100);
        DUE.same("half of it melts, rounded up", g.ice(), 19997);
        FishGrader full = Due.load(plain(0, 0) + Lines.ice(0, 9999, 99999, 0, 0) + Lines.species("a", 9, 9, 1, 1));
        full.advance(10);
        DUE.same("ten times 9999", full.ice(), 99990);
        full.advance(1);
        DUE.same("the greatest store", full.ice(), 99999);
    }

    private static void icingOrder() {
        DUE.part("section 3 (b): in the order of the due times, those with equal ones in the order of their numbers");
        // 6 in the box, 8 and 7 in the pool; two boxes are closed at the time 3, with 14 and with 7.
        FishGrader g = Due.load(plain(0, 2) + Lines.ice(100, 4, 99, 0, 0) + Lines.species("a", 10, 999, 1, 1)
                + Lines.items("a", 6, 8, 7, 5));
        g.advance(3);
        DUE.same("ice", g.ice(), 12);
        DUE.same("14 - 10", g.release(0, 0), 4);
        g.setTarget(0, 5);
        DUE.same("7 - 5", g.release(0, 0), 2);
        DUE.same("closedAt(0)", g.closedAt(0), 3);
        DUE.same("closedAt(1)", g.closedAt(1), 3);
        g.advance(1);
        DUE.same("icedAt(0)", g.icedAt(0), 4);
        DUE.same("the next box waits", g.icedAt(1), NONE);
        DUE.same("ice", g.ice(), 2);
        DUE.same("a later box waits behind it", g.nextIced(1), 2);
        g.advance(2);
        DUE.same("icedAt(1)", g.icedAt(1), 6);
        DUE.same("3 left are not enough for 5", g.icedAt(2), NONE);
        g.advance(1);
        DUE.same("icedAt(2)", g.icedAt(2), 7);
        DUE.same("iceUsed", g.iceUsed(), 26);
    }

    private static void iceRoundedUp() {
        DUE.part("section 3 (b): a box needs its weight * PERCENT / 100, rounded up");
        int[][] cases = {{1, 1, 1}, {1, 99, 1}, {1, 100, 1}, {1, 101, 2}, {33, 10, 4}, {100, 77, 77}, {200, 7, 14},
            {150, 3, 5}, {0, 500, 0}, {199, 100, 199}};
        for (int[] c : cases) {
            FishGrader g = Due.load(plain(0, 0) + Lines.ice(c[0], 0, 0, 0, 0) + Lines.species("a", 1, 9999, 1, 1)
                    + Lines.items("a", c[1]));
            g.advance(1);
            DUE.same(c[0] + " percent of " + c[1], g.iceNeeded(), c[2]);
            FishGrader h = Due.load(plain(0, 0) + Lines.ice(c[0], 999, 999, 0, 0) + Lines.species("a", 1, 9999, 1, 1)
                    + Lines.items("a", c[1]));
            h.advance(2);
            DUE.same(c[0] + " percent of " + c[1] + " used", h.iceUsed(), c[2]);
        }
        FishGrader most = Due.load("grader reference 9999 margin 0 limit 0 pool 0" + Lines.ice(200, 9999, 99999, 0, 0)
                + Lines.species("a", 30000, 999999, 1, 1) + ";item 20000 1 vote a 9");
        most.advance(100);
        DUE.same("more than any store", most.icedAt(0), NONE);
        DUE.same("iceNeeded", most.iceNeeded(), 20001);
    }

    private static void iceSuffices() {
        DUE.part("section 3 (b): if the ice in the store suffices, it decreases by this");
        for (int weight = 9; weight <= 11; weight++) {
            FishGrader g = Due.load(plain(0, 0) + Lines.ice(100, 5, 99, 9, 0) + Lines.species("a", 1, 999, 1, 1)
                    + Lines.items("a", weight));
            g.advance(2);
            DUE.same("icedAt, need " + weight, g.icedAt(0), weight <= 10 ? 2 : NONE);
            DUE.same("ice, need " + weight, g.ice(), weight <= 10 ? 10 - weight : 10);
            DUE.same("iceUsed, need " + weight, g.iceUsed(), weight <= 10 ? weight : 0);
            g.advance(1);
            DUE.same("icedAt then, need " + weight, g.icedAt(0), weight <= 10 ? 2 : 3);
        }
        FishGrader free = one(0, 0, 1, 100, 100);
        free.advance(3);
        DUE.same("0 percent of no ice", free.icedAt(0), 2);
        DUE.same("0 percent of no ice", free.icedAt(1), 3);
    }

    private static void icingEnds() {
        DUE.part("section 3 (b): at the first box for which it does not suffice, icing ends for this tick");
        FishGrader g = Due.load(plain(0, 0) + Lines.ice(100, 5, 99, 9, 0) + Lines.species("a", 1, 999, 1, 1)
                + Lines.items("a", 21, 1, 2));
        g.advance(4);
        DUE.same("ice", g.ice(), 20);
        DUE.same("icedAt(0)", g.icedAt(0), NONE);
        DUE.same("icedAt(1)", g.icedAt(1), NONE);
        DUE.same("icedAt(2)", g.icedAt(2), NONE);
        g.advance(1);
        DUE.same("all three at once", g.icedAt(0) + g.icedAt(1) + g.icedAt(2), 15);
        DUE.same("ice", g.ice(), 1);
    }

    private static void icedNextTick() {
        DUE.part("section 3: the steps in this order (a box is iced in the tick behind its closing)");
        FishGrader g = Due.load(plain(0, 0) + Lines.ice(10, 50, 99, 0, 0) + Lines.species("a", 100, 999, 1, 1)
                + Lines.items("a", 100));
        g.advance(1);
        DUE.same("ice is there", g.ice(), 50);
        DUE.same("icedAt", g.icedAt(0), NONE);
        g.advance(1);
        DUE.same("icedAt", g.icedAt(0), 2);
    }

    private static void stopsIncluded() {
        DUE.part("section 3 (c): from FROM to UNTIL, both included");
        FishGrader g = Due.load(plain(0, 0) + ";stop 2 3;stop 5 5;stop 8 10;stop 9 11"
                + Lines.species("a", 1, 999, 1, 1) + Lines.items("a", 1, 1, 1, 1, 1, 1));
        int[] due = {1, 1, 1, 2, 2, 3, 4, 4, 4, 4, 4, 5, 6, 6};
        for (int i = 0; i < due.length; i++) {
            g.advance(1);
            DUE.same("closed at time " + (i + 1), g.closed(), due[i]);
        }
        FishGrader first = Due.load(plain(0, 0) + ";stop 1 1" + Lines.species("a", 1, 999, 1, 1) + Lines.items("a", 1));
        DUE.same("the first tick", first.advance(1), 0);
        DUE.same("the second tick", first.advance(1), 1);
    }

    private static void stopsLeaveTheRest() {
        DUE.part("section 3 (c): only handling stops");
        FishGrader g = Due.load(plain(0, 0) + Lines.ice(100, 4, 99, 0, 0) + ";stop 2 9" + Lines.species("a", 10, 999, 1, 1)
                + Lines.items("a", 10, 10));
        g.advance(2);
        DUE.same("ice is made", g.ice(), 8);
        g.advance(1);
        DUE.same("a box is iced", g.icedAt(0), 3);
        DUE.same("and late", g.late(), 1);
        DUE.same("time", g.time(), 3);
        DUE.same("the item is not handled", g.stateOf(1), 0);
        g.advance(7);
        DUE.same("it is handled behind the stop", g.closedAt(1), 10);
    }

    private static void lastTicksOfStops() {
        DUE.part("section 3 (c): a stop to 999");
        FishGrader g = Due.load(plain(0, 0) + ";stop 1 999" + Lines.species("a", 1, 999, 1, 1) + Lines.items("a", 1));
        for (int i = 0; i < 9; i++) {
            g.advance(100);
        }
        g.advance(99);
        DUE.same("time", g.time(), 999);
        DUE.same("stateOf", g.stateOf(0), 0);
        g.advance(1);
        DUE.same("closedAt", g.closedAt(0), 1000);
    }

    private static void noItemLeft() {
        DUE.part("section 3 (c): the next item that has not been handled, if there is one");
        FishGrader g = one(0, 0, 1, 7);
        g.advance(3);
        DUE.same("time", g.time(), 3);
        DUE.same("content", g.content(0, 0), 7);
        DUE.same("itemsIn", g.itemsIn(0, 0), 1);
        g.addItem(8, 100, 0, 9);
        g.advance(1);
        DUE.same("an added item is the next one", g.content(0, 0), 15);
        FishGrader none = one(0, 0, 1);
        DUE.same("no items at all", none.advance(100), 0);
    }

    private static void rejected() {
        DUE.part("section 3 (c): an undetermined item is rejected");
        FishGrader g = Due.load(Lines.head(5, 0, 0) + Lines.species("a", 10, 20, 1, 1) + ";item 10 100 vote a 4"
                + ";item 999 1;item 20 100 vote a 5");
        g.advance(3);
        DUE.same("stateOf(0)", g.stateOf(0), 1);
        DUE.same("stateOf(1), above the quota", g.stateOf(1), 1);
        DUE.same("stateOf(2)", g.stateOf(2), 5);
        DUE.same("rejected", g.rejected(), 2);
        DUE.same("landed", g.landed(0), 20);
        DUE.same("discarded", g.discarded(0), 0);
    }

    private static void quotaReached() {
        DUE.part("section 3 (c): discarded if landed plus weight is greater than the quota");
        FishGrader g = Due.load(plain(0, 0) + Lines.species("a", 100, 50, 1, 1) + Lines.items("a", 51, 30, 21, 20, 1, 0));
        g.advance(6);
        int[] due = {2, 4, 2, 4, 2, 4};
        for (int i = 0; i < due.length; i++) {
            DUE.same("stateOf(" + i + ")", g.stateOf(i), due[i]);
        }
        DUE.same("landed", g.landed(0), 50);
        DUE.same("discarded", g.discarded(0), 73);
        DUE.same("content", g.content(0, 0), 50);
        DUE.same("boxOf a discarded one", g.boxOf(0), NONE);
    }

    private static void quotaOfNothing() {
        DUE.part("section 3 (c): a quota of 0");
        FishGrader g = Due.load(plain(0, 0) + Lines.species("a", 100, 0, 1, 1) + Lines.items("a", 0, 1));
        g.advance(2);
        DUE.same("an item of no weight lands", g.stateOf(0), 4);
        DUE.same("itemsIn", g.itemsIn(0, 0), 1);
        DUE.same("an item of 1 does not", g.stateOf(1), 2);
    }

    private static void caseOne() {
        DUE.part("case 1: at least the target and at most the target plus LIMIT");
        int[][] cases = {{0, 39, 0, 99}, {0, 40, 1, 0}, {0, 41, 0, 60}, {5, 39, 0, 99}, {5, 40, 1, 0}, {5, 45, 1, 0},
            {5, 46, 0, 60}, {9999, 10039, 1, 0}, {9999, 10040, 0, 60}};
        for (int[] c : cases) {
            FishGrader g = Due.load(plain(c[0], 1) + Lines.species("a", 100, 99999, 1, 1) + Lines.items("a", 60, c[1]));
            DUE.same("limit " + c[0] + ", 60 + " + c[1] + " closes", g.advance(2), c[2]);
            DUE.same("limit " + c[0] + ", 60 + " + c[1] + " leaves", g.content(0, 0), c[3]);
        }
        DUE.same("an empty box, at the target", one(0, 1, 1, 100).advance(1), 1);
        DUE.same("an empty box, above the limit", one(4, 1, 1, 105).advance(1), 0);
    }

    private static void caseOneSmallestSum() {
        DUE.part("case 1: into the one with the smallest sum, of equal ones the lowest place");
        FishGrader g = one(9, 0, 3, 62, 60, 61, 40);
        g.setRule(2);
        g.advance(4);
        contents(g, 62, 0, 61);
        FishGrader equal = one(9, 0, 3, 70, 60, 60, 40);
        equal.setRule(2);
        equal.advance(4);
        contents(equal, 70, 0, 60);
        DUE.part("case 1: the smallest sum of those in the range, and before case 2");
        FishGrader some = one(9, 0, 3, 20, 60, 90, 45);
        some.setRule(2);
        some.advance(4);
        contents(some, 20, 0, 90);
    }

    private static void onlyItsSpecies() {
        DUE.part("section 3 (c): only the open boxes of the species of the item are considered");
        FishGrader g = Due.load(plain(0, 1) + Lines.species("a", 100, 999, 1, 1) + Lines.species("b", 100, 999, 1, 1)
                + Lines.species("c", 100, 999, 2, 1) + Lines.items("a", 60) + Lines.items("b", 40) + Lines.items("c", 40));
        DUE.same("none fits another species", g.advance(3), 0);
        DUE.same("content(0, 0)", g.content(0, 0), 60);
        DUE.same("content(1, 0)", g.content(1, 0), 40);
        DUE.same("content(2, 0)", g.content(2, 0), 40);
        DUE.same("content(2, 1)", g.content(2, 1), 0);
        // Boxes of a: 85 and 20; boxes of b: 30, 60 and 61.
        FishGrader h = Due.load(plain(0, 0) + Lines.species("a", 100, 999, 2, 1) + Lines.species("b", 100, 999, 3, 1)
                + Lines.items("a", 85, 20) + Lines.items("b", 30, 60, 61, 40, 95));
        h.setRule(2);
        h.advance(5);
        DUE.same("case 1", h.advance(1), 1);
        DUE.same("content(1, 0)", h.content(1, 0), 30);
        DUE.same("content(1, 1)", h.content(1, 1), 0);
        DUE.same("content(1, 2)", h.content(1, 2), 61);
        DUE.same("case 2", h.advance(1), 0);
        DUE.same("content(1, 1)", h.content(1, 1), 95);
        h.addItem(90, 100, 1, 9);
        DUE.same("case 4", h.advance(1), 1);
        DUE.same("30 + 90", h.closedWeight(1), 120);
        DUE.same("the boxes of a stay", h.content(0, 0) * 100 + h.content(0, 1), 8520);
    }

    private static void caseTwo() {
        DUE.part("case 2: less than the target; rule 0 the lowest place, 1 the greatest, 2 the smallest content");
        int[] contents = {60, 70, 50};
        contents(put(0, contents, 10), 70, 70, 50);
        contents(put(1, contents, 10), 60, 80, 50);
        contents(put(2, contents, 10), 60, 70, 60);
        contents(put(1, contents, 29), 60, 99, 50);
        DUE.same("100 is not less", put(1, contents, 30).closed(), 1);
        contents(put(1, new int[] {50, 60, 70}, 10), 50, 60, 80);
        contents(put(2, new int[] {50, 60, 70}, 10), 60, 60, 70);
    }

    private static void caseTwoTies() {
        DUE.part("case 2: of equal ones the lowest place");
        for (int rule = 0; rule < 3; rule++) {
            contents(put(rule, new int[] {60, 60, 60}, 10), 70, 60, 60);
        }
        contents(put(1, new int[] {50, 60, 60}, 10), 50, 70, 60);
        contents(put(2, new int[] {70, 60, 60}, 10), 70, 70, 60);
        contents(put(0, new int[] {70, 60, 60}, 10), 80, 60, 60);
    }

    private static void caseTwoTooFull() {
        DUE.part("case 2: a box whose sum is not less than the target is left out");
        int[] contents = {60, 70, 50};
        contents(put(0, contents, 35), 95, 70, 50);
        contents(put(1, contents, 35), 95, 70, 50);
        contents(put(2, contents, 35), 60, 70, 85);
        for (int rule = 0; rule < 3; rule++) {
            contents(put(rule, contents, 45), 60, 70, 95);
        }
    }

    private static void caseThree() {
        DUE.part("case 3: the pool has fewer than POOL items");
        for (int pool = 0; pool <= 10; pool++) {
            FishGrader g = one(0, pool, 1, 60, 60, 60, 60, 60, 60, 60, 60, 60, 60, 60, 60, 60);
            g.advance(1 + pool);
            DUE.same("pooled", g.pooled(), pool);
            DUE.same("closed", g.closed(), 0);
            g.advance(1);
            DUE.same("a full pool", g.pooled(), pool);
            DUE.same("case 4", g.closed(), 1);
        }
        DUE.part("case 3: into the pool, behind its other items, which may be of other species");
        FishGrader g = Due.load(plain(0, 2) + Lines.species("a", 100, 999, 1, 1) + Lines.species("b", 100, 999, 1, 1)
                + Lines.items("b", 60, 61) + Lines.items("a", 60, 62) + Lines.items("b", 63));
        g.advance(5);
        DUE.same("poolItem(0)", g.poolItem(0), 1);
        DUE.same("poolItem(1)", g.poolItem(1), 3);
        DUE.same("no room for a third one", g.closedWeight(0), 123);
        g.addItem(40, 100, 0, 9);
        g.addItem(99, 100, 1, 9);
        g.addItem(64, 100, 1, 9);
        g.advance(2);
        g.release(1, 0);
        g.advance(1);
        DUE.same("poolItem(0)", g.poolItem(0), 1);
        DUE.same("room again, behind the other", g.poolItem(1), 7);
    }

    private static void caseFour() {
        DUE.part("case 4: into the box with the smallest sum, of equal ones the lowest place");
        FishGrader g = put(0, new int[] {90, 80, 85}, 60);
        contents(g, 90, 0, 85);
        DUE.same("closedWeight", g.closedWeight(0), 140);
        FishGrader equal = put(0, new int[] {90, 80, 80}, 60);
        contents(equal, 90, 0, 80);
        FishGrader all = put(2, new int[] {80, 80, 80}, 60);
        contents(all, 0, 80, 80);
        DUE.same("an empty box", one(0, 0, 2, 500).advance(1), 1);
    }

    private static void closing() {
        DUE.part("section 3: closed if the content is at least the target; numbers from 0, due at the time plus DUE");
        FishGrader g = Due.load(plain(0, 0) + Lines.ice(100, 0, 0, 3, 0) + Lines.species("a", 100, 9999, 1, 1)
                + Lines.items("a", 99, 1, 100, 101));
        DUE.same("99", g.advance(1), 0);
        DUE.same("100", g.advance(1), 1);
        DUE.same("boxOf", g.boxOf(1), 0);
        DUE.same("the next number", g.advance(2), 2);
        DUE.same("boxOf", g.boxOf(2), 1);
        DUE.same("boxOf", g.boxOf(3), 2);
        DUE.same("it waits for ice", g.nextIced(0), 0);
        DUE.same("due at 5", g.firstLate(2), 2);
        g.advance(1);
        DUE.same("not late at 5", g.late(), 0);
        g.advance(1);
        DUE.same("late at 6", g.late(), 1);
        DUE.part("section 3: a box into which an item was put, even one of no weight");
        FishGrader light = one(10, 0, 1, 60, 0);
        light.advance(1);
        light.setTarget(0, 50);
        DUE.same("closed by an item of no weight", light.advance(1), 1);
        DUE.same("giveaway", light.giveaway(0), 10);
        FishGrader still = one(0, 0, 1, 0, 0);
        DUE.same("items of no weight fill no box", still.advance(2), 0);
        DUE.same("itemsIn", still.itemsIn(0, 0), 2);
    }

    private static void emptyBoxOpened() {
        DUE.part("section 3: an empty box is opened at its place");
        FishGrader g = one(0, 0, 2, 60, 70, 30, 10);
        g.advance(2);
        DUE.same("closed", g.advance(1), 1);
        contents(g, 60, 0);
        DUE.same("itemsIn", g.itemsIn(0, 1), 0);
        DUE.same("the other box keeps its item", g.itemsIn(0, 0), 1);
        g.setRule(2);
        g.advance(1);
        contents(g, 60, 10);
        DUE.same("boxOf", g.boxOf(3), 1);
        DUE.same("stateOf", g.stateOf(3), 4);
    }

    private static void earnings() {
        DUE.part("earnings: PRICE times the target when the box was closed; half of that, rounded down, if late");
        FishGrader g = Due.load(plain(99, 0) + Lines.ice(100, 0, 0, 1, 0) + Lines.species("a", 11, 9999, 1, 3)
                + Lines.species("b", 10, 999, 1, 0) + Lines.species("c", 30000, 999999, 1, 99)
                + Lines.items("a", 15, 20) + Lines.items("b", 10) + ";item 20000 100 and 10000 1 vote c 9");
        g.advance(1);
        g.setTarget(0, 13);
        DUE.same("the target of then", g.earnings(0), 33);
        g.advance(1);
        DUE.same("33 at its due time, and 39", g.earnings(0), 72);
        g.advance(1);
        DUE.same("half of 33 is 16", g.earnings(0), 55);
        g.advance(1);
        DUE.same("half of 39 is 19", g.earnings(0), 35);
        DUE.same("price 0", g.earnings(1), 0);
        FishGrader dear = Due.load("grader reference 9999 margin 0 limit 0 pool 0" + Lines.species("c", 30000, 999999, 1, 99)
                + ";item 20000 1 vote c 9");
        dear.advance(1);
        DUE.same("99 times 30000", dear.earnings(0), 2970000);
        dear.advance(1);
        DUE.same("half of it: iced at 2, due at 1", dear.earnings(0), 1485000);
    }
}
