/** The boundary cases of promises 7 to 50 (questions), in the order of the document's sentences. */
public final class BoundaryAskTest {
    private static final Due DUE = new Due();
    private static final int NONE = FishGrader.NONE;
    private static final int MIN = Integer.MIN_VALUE;
    private static final int MAX = Integer.MAX_VALUE;

    public static void main(String[] args) {
        zerosWithoutGrader();
        counts();
        itemIndex();
        scoreIndex();
        fates();
        boxesOfItems();
        agreements();
        places();
        boxNumbers();
        notIced();
        waitingRanks();
        worstRanks();
        poolIndex();
        stoppedTicks();
        lateBoxes();
        speciesIndex();
        givenAway();
        means();
        closedInTicks();
        firstClosedTicks();
        firstLateTicks();
        bestRuleTicks();
        bestRuleOrder();
        bestMoveRange();
        bestMoveAccepted();
        bestMoveOrder();
        bestLimitRange();
        bestLimitOrder();
        combinationSets();
        combinationOrder();
        lookaheadRange();
        lookaheadSets();
        iceNeeded();
        DUE.end();
    }

    private static String plain(int limit, int pool) {
        return Lines.head(0, limit, pool);
    }

    /** One species, a, with a target of 100. */
    private static FishGrader one(int limit, int pool, int boxes, int... weights) {
        return Due.load(plain(limit, pool) + Lines.species("a", 100, 99999, boxes, 1) + Lines.items("a", weights));
    }

    private interface Call {
        int answer(int argument);
    }

    private static void refusedIndex(String what, Call call, int... bad) {
        for (int value : bad) {
            DUE.index(what + "(" + value + ")", () -> call.answer(value));
        }
    }

    private static void refusedArgument(String what, Call call, int... bad) {
        for (int value : bad) {
            DUE.argument(what + "(" + value + ")", () -> call.answer(value));
        }
    }

    // ---- items

    private static void zerosWithoutGrader() {
        DUE.part("promises 7, 8, 17, 25 to 27, 29, 30, 33 and 60: 0 if there is no grader");
        FishGrader g = new FishGrader();
        DUE.same("items", g.items(), 0);
        DUE.same("speciesCount", g.speciesCount(), 0);
        DUE.same("closed", g.closed(), 0);
        DUE.same("time", g.time(), 0);
        DUE.same("rule", g.rule(), 0);
        DUE.same("pooled", g.pooled(), 0);
        DUE.same("ice", g.ice(), 0);
        DUE.same("iceUsed", g.iceUsed(), 0);
        DUE.same("rejected", g.rejected(), 0);
        DUE.same("undoable", g.undoable(), 0);
    }

    private static void counts() {
        DUE.part("promises 7 and 8: none, one, and as many as there can be");
        FishGrader none = Due.load(plain(0, 0) + Lines.species("a", 1, 1, 1, 1));
        DUE.same("items", none.items(), 0);
        DUE.same("speciesCount", none.speciesCount(), 1);
        FishGrader g = Due.load(plain(0, 0) + Lines.species("a", 1, 1, 1, 1) + Lines.species("b", 1, 1, 1, 1)
                + Lines.species("c", 1, 1, 1, 1) + Lines.species("d", 1, 1, 1, 1) + ";item 1 1".repeat(60));
        DUE.same("speciesCount", g.speciesCount(), 4);
        DUE.same("items", g.items(), 60);
        for (int i = 0; i < 20; i++) {
            g.addItem(1, 1, 0, 1);
        }
        DUE.same("items", g.items(), 80);
    }

    private static void itemIndex() {
        DUE.part("promises 9 to 14: no such item");
        FishGrader g = one(0, 0, 1, 7, 8);
        Call[] calls = {g::weight, g::speciesOf, g::stateOf, g::boxOf, g::agreement, i -> g.score(i, 0)};
        int[] lastDue = {8, 0, 0, NONE, 9, 9};
        for (int c = 0; c < calls.length; c++) {
            DUE.same("the last item, call " + c, calls[c].answer(1), lastDue[c]);
            refusedIndex("call " + c, calls[c], -1, 2, 59, 60, 79, 80, MIN, MAX);
        }
        g.addItem(9, 100, 0, 9);
        DUE.same("an added item", g.weight(2), 9);
        refusedIndex("weight", g::weight, 3);
        g.undo();
        refusedIndex("weight of an undone item", g::weight, 2);
        FishGrader none = one(0, 0, 1);
        refusedIndex("no item", none::weight, 0, -1);
        refusedIndex("no item", none::stateOf, 0);
    }

    private static void scoreIndex() {
        DUE.part("promise 10: no such item or species");
        FishGrader g = Due.load(plain(0, 0) + Lines.species("a", 1, 1, 1, 1) + Lines.species("b", 1, 1, 1, 1)
                + ";item 1 1 vote b 3");
        DUE.same("score(0, 1)", g.score(0, 1), 3);
        refusedIndex("species", s -> g.score(0, s), -1, 2, 3, 4, MIN, MAX);
        refusedIndex("item and species", i -> g.score(i, i), -1, 4);
    }

    private static void fates() {
        DUE.part("promise 12: 0 to 5");
        FishGrader g = Due.load(plain(0, 1) + Lines.species("a", 100, 400, 1, 1) + Lines.items("a", 100) + ";item 7 100"
                + Lines.items("a", 301, 60, 90, 20));
        int[] due = {5, 1, 2, 4, 3, 0};
        for (int i = 0; i < due.length; i++) {
            DUE.same("before", g.stateOf(i), 0);
        }
        g.advance(5);
        for (int i = 0; i < due.length; i++) {
            DUE.same("stateOf(" + i + ")", g.stateOf(i), due[i]);
        }
        g.advance(1);
        g.release(0, 0);
        DUE.same("from the pool into a closed box", g.stateOf(4), 5);
        DUE.same("from an open box into a closed one", g.stateOf(3), 5);
    }

    private static void boxesOfItems() {
        DUE.part("promise 13: the place, the number, or NONE");
        FishGrader g = Due.load(plain(0, 1) + Lines.species("a", 100, 400, 2, 1) + Lines.items("a", 100) + ";item 7 100"
                + Lines.items("a", 301, 60, 90, 95, 40));
        DUE.same("not handled", g.boxOf(0), NONE);
        g.advance(6);
        int[] due = {0, NONE, NONE, 0, 1, NONE, NONE};
        for (int i = 0; i < due.length; i++) {
            DUE.same("boxOf(" + i + ")", g.boxOf(i), due[i]);
        }
        g.advance(1);
        DUE.same("its box has the number 1", g.boxOf(3), 1);
        DUE.same("its box is still open at the place 1", g.boxOf(4), 1);
        DUE.same("stateOf", g.stateOf(3) * 10 + g.stateOf(4), 54);
    }

    private static void agreements() {
        DUE.part("promise 14: the greatest score minus the next greatest of another species");
        FishGrader g = Due.load(Lines.head(50, 0, 0) + Lines.species("a", 1, 1, 1, 1) + Lines.species("b", 1, 1, 1, 1)
                + Lines.species("c", 1, 1, 1, 1) + ";item 1 1;item 1 1 vote c 4;item 1 1 vote a 4 vote c 4"
                + ";item 1 1 vote a 3 vote b 5 vote c 9;item 1 1 vote c 5 vote b 3 vote c 5 vote b 3"
                + ";item 1 1 vote a 99 vote a 99 vote a 99 vote a 99 vote a 99;item 1 1 vote a 5 vote c 9");
        int[] due = {0, 4, 0, 4, 4, 495, 4};
        for (int i = 0; i < due.length; i++) {
            DUE.same("agreement(" + i + ")", g.agreement(i), due[i]);
        }
        DUE.same("also if it is undetermined", g.speciesOf(3), NONE);
    }

    // ---- boxes

    private static void places() {
        DUE.part("promises 15, 16, 48, 49 and 52: no such species or place");
        FishGrader g = Due.load(plain(0, 0) + Lines.species("a", 100, 99, 1, 1) + Lines.species("b", 100, 99, 3, 1)
                + Lines.items("b", 7, 0));
        g.setRule(2);
        g.advance(2);
        DUE.same("content(1, 0)", g.content(1, 0), 7);
        DUE.same("the last place", g.content(1, 2), 0);
        DUE.same("itemsIn(1, 1)", g.itemsIn(1, 1), 1);
        DUE.same("an item of no weight counts", g.content(1, 1), 0);
        DUE.same("an empty box", g.itemsIn(1, 2), 0);
        int[][] bad = {{0, 1}, {0, -1}, {1, 3}, {1, -1}, {2, 0}, {-1, 0}, {3, 0}, {4, 0}, {MIN, 0}, {MAX, 0}, {0, MIN},
            {0, MAX}, {1, MAX}, {-1, 3}, {2, -6}};
        for (int[] b : bad) {
            String at = "(" + b[0] + ", " + b[1] + ")";
            DUE.index("content" + at, () -> g.content(b[0], b[1]));
            DUE.index("itemsIn" + at, () -> g.itemsIn(b[0], b[1]));
            DUE.index("combination" + at, () -> g.combination(b[0], b[1]));
            DUE.index("lookahead" + at, () -> g.lookahead(b[0], b[1], 1));
            DUE.index("combine" + at, () -> g.combine(b[0], b[1]));
        }
    }

    private static void boxNumbers() {
        DUE.part("promises 18 to 22 and 63: no such closed box");
        FishGrader g = one(0, 0, 1, 100, 107, 50);
        Call[] calls = {g::closedSpecies, g::closedWeight, g::giveaway, g::closedAt, g::icedAt, g::label};
        for (Call call : calls) {
            refusedIndex("no box", call, 0, -1, 1);
        }
        g.advance(3);
        int[] lastDue = {0, 107, 7, 2, 3, "a 107+7 ice3".length()};
        for (int c = 0; c < calls.length; c++) {
            DUE.same("the last box, call " + c, calls[c].answer(1), lastDue[c]);
            refusedIndex("call " + c, calls[c], -1, 2, 79, 80, MIN, MAX);
        }
        g.undo();
        for (Call call : calls) {
            refusedIndex("an undone box", call, 0, 1);
        }
        DUE.part("promise 20: its weight minus the target that its species had when it was closed");
        g.advance(2);
        g.setTarget(0, 1);
        DUE.same("giveaway(1)", g.giveaway(1), 7);
        DUE.same("giveaway(0)", g.giveaway(0), 0);
    }

    private static void notIced() {
        DUE.part("promise 22: NONE if it has not been iced");
        FishGrader g = Due.load(plain(0, 0) + Lines.ice(10, 5, 99, 0, 0) + Lines.species("a", 100, 999, 1, 1)
                + Lines.items("a", 100, 100));
        g.advance(1);
        DUE.same("icedAt(0) at 1", g.icedAt(0), NONE);
        g.advance(1);
        DUE.same("icedAt(0) at 2", g.icedAt(0), 2);
        DUE.same("icedAt(1) at 2", g.icedAt(1), NONE);
        g.advance(1);
        DUE.same("icedAt(1) at 3", g.icedAt(1), NONE);
        g.advance(1);
        DUE.same("icedAt(1) at 4", g.icedAt(1), 4);
        g.undo();
        DUE.same("undone", g.icedAt(1), NONE);
    }

    private static void waitingRanks() {
        DUE.part("promise 23: rank is negative or not less than the number of boxes that wait");
        FishGrader g = Due.load(plain(0, 0) + Lines.ice(10, 5, 99, 0, 0) + Lines.species("a", 100, 999, 1, 1)
                + Lines.items("a", 100, 100, 100));
        refusedIndex("no box", g::nextIced, 0, -1, 1);
        g.advance(3);
        DUE.same("the first one is iced", g.icedAt(0), 2);
        DUE.same("nextIced(0)", g.nextIced(0), 1);
        DUE.same("nextIced(1)", g.nextIced(1), 2);
        refusedIndex("nextIced", g::nextIced, 2, 3, -1, MIN, MAX);
        g.advance(9);
        DUE.same("all are iced", g.icedAt(2) > 0 ? 1 : 0, 1);
        refusedIndex("none waits", g::nextIced, 0, -1, 2);
    }

    private static void worstRanks() {
        DUE.part("promise 24: greater giveaways first, of equal ones the smaller number first");
        FishGrader g = one(0, 0, 1, 105, 120, 105, 100, 120, 100);
        refusedIndex("no box", g::worstBox, 0, -1);
        g.advance(6);
        int[] due = {1, 4, 0, 2, 3, 5};
        for (int i = 0; i < due.length; i++) {
            DUE.same("worstBox(" + i + ")", g.worstBox(i), due[i]);
        }
        refusedIndex("worstBox", g::worstBox, 6, 7, -1, MIN, MAX);
        DUE.part("promise 24: by the giveaway, not the weight");
        FishGrader h = Due.load(plain(0, 0) + Lines.species("a", 100, 999, 1, 1) + Lines.species("b", 10, 999, 1, 1)
                + Lines.items("a", 101) + Lines.items("b", 12));
        h.advance(2);
        DUE.same("worstBox(0)", h.worstBox(0), 1);
        DUE.same("worstBox(1)", h.worstBox(1), 0);
    }

    // ---- the state

    private static void poolIndex() {
        DUE.part("promise 28: index is negative or not less than the number of items in the pool");
        FishGrader g = one(0, 3, 1, 60, 70, 80);
        refusedIndex("an empty pool", g::poolItem, 0, -1);
        g.advance(3);
        DUE.same("poolItem(0)", g.poolItem(0), 1);
        DUE.same("poolItem(1)", g.poolItem(1), 2);
        refusedIndex("poolItem", g::poolItem, -1, 2, 3, 9, 10, MIN, MAX);
        g.release(1, 0);
        refusedIndex("a released item", g::poolItem, 1);
        DUE.same("poolItem(0)", g.poolItem(0), 1);
    }

    private static void stoppedTicks() {
        DUE.part("promise 31: any time, from 1 on");
        FishGrader g = Due.load(plain(0, 0) + ";stop 1 1;stop 3 4;stop 999 999" + Lines.species("a", 1, 1, 1, 1));
        int[] ticks = {1, 2, 3, 4, 5, 998, 999, 1000, MAX};
        int[] due = {1, 0, 1, 1, 0, 0, 1, 0, 0};
        for (int i = 0; i < ticks.length; i++) {
            DUE.same("isStopped(" + ticks[i] + ")", g.isStopped(ticks[i]) ? 1 : 0, due[i]);
        }
        refusedArgument("isStopped", t -> g.isStopped(t) ? 1 : 0, 0, -1, MIN);
        DUE.same("a past time too", g.advance(5), 0);
        DUE.same("isStopped(3)", g.isStopped(3) ? 1 : 0, 1);
        DUE.same("no stop line", one(0, 0, 1).isStopped(1) ? 1 : 0, 0);
    }

    private static void lateBoxes() {
        DUE.part("promise 32: iced after the due time");
        for (int make = 3; make <= 6; make++) {
            // A box of 11, closed at 1 and due at 3, is iced at 4, 3, 3 and 2.
            FishGrader g = Due.load(plain(0, 0) + Lines.ice(100, make, 99, 2, 0) + Lines.species("a", 11, 999, 1, 1)
                    + Lines.items("a", 11));
            g.advance(20);
            DUE.same("late, " + make + " made", g.late(), make == 3 ? 1 : 0);
        }
        DUE.part("promise 32: not iced although the due time is less than the time");
        for (int due : new int[] {0, 1, 98}) {
            FishGrader g = Due.load(plain(0, 0) + Lines.ice(100, 0, 0, due, 0) + Lines.species("a", 11, 999, 1, 1)
                    + Lines.items("a", 11));
            DUE.same("no box", g.late(), 0);
            g.advance(1 + due);
            DUE.same("at the due time", g.late(), 0);
            g.advance(1);
            DUE.same("one later", g.late(), 1);
        }
    }

    private static void speciesIndex() {
        DUE.part("promises 34 to 40 and 43: no such species");
        FishGrader g = Due.load(plain(0, 0) + Lines.species("a", 1, 2, 1, 1) + Lines.species("b", 3, 4, 1, 1));
        Call[] calls = {g::landed, g::discarded, g::quota, g::target, g::totalGiveaway, g::earnings,
            s -> g.meanGiveaway(s, true), s -> g.meanGiveaway(s, false), s -> g.firstClosed(s, 1)};
        int[] due = {0, 0, 4, 3, 0, 0, 1, 0, NONE};
        for (int c = 0; c < calls.length; c++) {
            DUE.same("the last species, call " + c, calls[c].answer(1), due[c]);
            refusedIndex("call " + c, calls[c], -1, 2, 3, 4, MIN, MAX);
        }
    }

    private static void givenAway() {
        DUE.part("promise 38: all closed boxes of a species");
        FishGrader g = Due.load(plain(0, 0) + Lines.species("a", 10, 999, 1, 1) + Lines.species("b", 10, 999, 1, 1)
                + Lines.items("a", 13, 10) + Lines.items("b", 15) + Lines.items("a", 14));
        DUE.same("no box", g.totalGiveaway(0), 0);
        g.advance(2);
        g.setTarget(0, 5);
        g.advance(2);
        DUE.same("3 + 0 + 9", g.totalGiveaway(0), 12);
        DUE.same("5", g.totalGiveaway(1), 5);
    }

    private static void mean(String what, int numerator, int denominator, int... weights) {
        FishGrader g = one(0, 0, 1, weights);
        g.advance(100);
        DUE.same(what + ", numerator", g.meanGiveaway(0, false), numerator);
        DUE.same(what + ", denominator", g.meanGiveaway(0, true), denominator);
    }

    private static void means() {
        DUE.part("promise 40: a fraction in lowest terms; 0 is 0/1; 0 if there is no closed box");
        mean("no box", 0, 1);
        mean("an open box", 0, 1, 50);
        mean("0/1", 0, 1, 100);
        mean("0/3", 0, 1, 100, 100, 100);
        mean("7/1", 7, 1, 107);
        mean("1/2", 1, 2, 101, 100);
        mean("4/2", 2, 1, 101, 103);
        mean("6/4", 3, 2, 101, 100, 105, 100);
        mean("8/6", 4, 3, 108, 100, 100, 100, 100, 100);
        mean("5/3", 5, 3, 105, 100, 100);
        mean("12/8", 3, 2, 112, 100, 100, 100, 100, 100, 100, 100);
        mean("2/4", 1, 2, 102, 100, 100, 100);
    }

    // ---- what-if questions

    private static void closedInTicks() {
        DUE.part("promises 41 and 42: 1 to 100 ticks");
        FishGrader g = Due.load(plain(0, 0) + ";stop 2 99" + Lines.species("a", 100, 999, 1, 1) + Lines.items("a", 103, 105));
        DUE.same("closedIn(1)", g.closedIn(1), 1);
        DUE.same("closedIn(99)", g.closedIn(99), 1);
        DUE.same("closedIn(100)", g.closedIn(100), 2);
        DUE.same("giveawayIn(1)", g.giveawayIn(1), 3);
        DUE.same("giveawayIn(99)", g.giveawayIn(99), 3);
        DUE.same("giveawayIn(100)", g.giveawayIn(100), 8);
        g.advance(1);
        DUE.same("only the boxes closed in them", g.closedIn(99), 1);
        DUE.same("only the boxes closed in them", g.giveawayIn(99), 5);
        DUE.same("none", g.closedIn(98), 0);
        DUE.same("none", g.giveawayIn(98), 0);
        refusedArgument("closedIn", g::closedIn, 0, -1, 101, MIN, MAX);
        refusedArgument("giveawayIn", g::giveawayIn, 0, -1, 101, MIN, MAX);
    }

    private static void firstClosedTicks() {
        DUE.part("promise 43: 1 to n; NONE if none is closed in these ticks");
        FishGrader g = Due.load(plain(0, 0) + ";stop 3 99" + Lines.species("a", 100, 999, 1, 1)
                + Lines.species("b", 100, 999, 1, 1) + Lines.items("a", 100) + Lines.items("b", 100) + Lines.items("a", 100));
        DUE.same("firstClosed(0, 1)", g.firstClosed(0, 1), 1);
        DUE.same("firstClosed(1, 1)", g.firstClosed(1, 1), NONE);
        DUE.same("firstClosed(1, 2)", g.firstClosed(1, 2), 2);
        DUE.same("firstClosed(1, 100)", g.firstClosed(1, 100), 2);
        g.advance(1);
        DUE.same("the next box, not one before", g.firstClosed(0, 98), NONE);
        DUE.same("at the last tick", g.firstClosed(0, 99), 99);
        g.undo();
        g.setTarget(0, 101);
        DUE.same("at the tick 100", g.firstClosed(1, 100), 2);
        FishGrader late = Due.load(plain(0, 0) + ";stop 1 99" + Lines.species("a", 100, 999, 1, 1) + Lines.items("a", 100));
        DUE.same("firstClosed(0, 99)", late.firstClosed(0, 99), NONE);
        DUE.same("firstClosed(0, 100)", late.firstClosed(0, 100), 100);
        refusedArgument("firstClosed", n -> g.firstClosed(0, n), 0, -1, 101, MIN, MAX);
    }

    private static void firstLateTicks() {
        DUE.part("promise 44: 1 to n; NONE if it is not in these ticks");
        FishGrader g = Due.load(plain(0, 0) + Lines.ice(100, 0, 0, 99, 0) + Lines.species("a", 100, 999, 1, 1)
                + Lines.items("a", 100, 50, 50));
        DUE.same("101 ticks are too many", g.firstLate(100), NONE);
        g.advance(1);
        DUE.same("firstLate(99)", g.firstLate(99), NONE);
        DUE.same("firstLate(100)", g.firstLate(100), 100);
        g.advance(99);
        DUE.same("firstLate(1)", g.firstLate(1), 1);
        g.advance(1);
        DUE.same("greater than now", g.firstLate(1), NONE);
        DUE.same("the next one", g.firstLate(100), 2);
        g.advance(2);
        DUE.same("both are late", g.late(), 2);
        DUE.same("no third one", g.firstLate(100), NONE);
        DUE.same("nothing is ever late", one(0, 0, 1).firstLate(100), NONE);
        refusedArgument("firstLate", g::firstLate, 0, -1, 101, MIN, MAX);
    }

    private static void bestRuleTicks() {
        DUE.part("promise 45: 1 to 100 ticks");
        // By rule 2 the 20 and the 30 go apart, and 20 + 90 gives 10 away, not 40.
        FishGrader g = Due.load(plain(99, 0) + ";stop 3 99" + Lines.species("a", 100, 999, 2, 1)
                + Lines.items("a", 20, 30, 90));
        DUE.same("bestRule(100)", g.bestRule(100), 2);
        DUE.same("bestRule(99)", g.bestRule(99), 0);
        DUE.same("bestRule(1)", g.bestRule(1), 0);
        refusedArgument("bestRule", g::bestRule, 0, -1, 101, MIN, MAX);
    }

    private static void bestRuleOrder() {
        DUE.part("promise 45: compared exactly");
        // Rules 0 and 2 close 108 and 109, rule 1 only 108: 17/2 and 8/1.
        FishGrader exact = one(40, 2, 2, 97, 66, 11, 22, 87);
        DUE.same("8 is less than 8.5", exact.bestRule(5), 1);
        DUE.part("promise 45: the sum divided by the number");
        // Rules 0 and 1 close 110 alone, rule 2 110 and 102: 10/1 and 12/2.
        FishGrader mean = one(40, 2, 2, 55, 55, 67, 21, 81);
        DUE.same("6 is less than 10", mean.bestRule(5), 2);
        // Rules 0 and 1 close 111 and 102, rule 2 only 111: 13/2 and 11/1.
        FishGrader first = one(40, 2, 2, 56, 55, 10, 66, 26);
        DUE.same("6.5 is less than 11", first.bestRule(5), 0);
        DUE.part("promise 45: a rule with which no box is closed comes behind all others");
        // Rules 0 and 2 fill 90 and 60, rule 1 fills 50 + 30 + 10 + ..: only rule 1 reaches 100.
        DUE.same("only rule 1 closes a box", one(0, 0, 2, 50, 60, 30, 10).bestRule(4), 1);
        DUE.part("promise 45: of equal ones the smallest rule");
        DUE.same("all give 0 away", one(0, 0, 1, 100).bestRule(1), 0);
        FishGrader none = one(0, 0, 1, 50);
        none.setRule(2);
        DUE.same("no rule closes a box", none.bestRule(1), 0);
        DUE.same("the rule stays", none.rule(), 2);
        // Only boxes closed in these ticks count: the 150 before does not.
        FishGrader then = one(99, 0, 2, 150, 20, 30, 90);
        then.advance(1);
        DUE.same("boxes closed before do not count", then.bestRule(3), 2);
    }

    /** The second item of a lands only with 10 more; b and c have some quota and no items. */
    private static FishGrader moves(int quotaB, int quotaC) {
        return Due.load(plain(0, 0) + Lines.species("a", 10, 10, 1, 1) + Lines.species("b", 10, quotaB, 1, 1)
                + Lines.species("c", 10, quotaC, 1, 1) + Lines.items("a", 10, 10));
    }

    private static void bestMoveRange() {
        DUE.part("promise 46: amount 1 to 999999, n 1 to 100");
        FishGrader g = Due.load(plain(0, 0) + ";stop 1 99" + Lines.species("a", 10, 9, 1, 1)
                + Lines.species("b", 10, 999999, 1, 1) + Lines.items("a", 10));
        DUE.same("bestMove(1, 100)", g.bestMove(1, 100), 10);
        DUE.same("bestMove(1, 99)", g.bestMove(1, 99), NONE);
        DUE.same("bestMove(1, 1)", g.bestMove(1, 1), NONE);
        DUE.same("bestMove(999999, 100)", g.bestMove(999999, 100), 10);
        refusedArgument("amount", a -> g.bestMove(a, 1), 0, -1, 1000000, MIN, MAX);
        refusedArgument("n", n -> g.bestMove(1, n), 0, -1, 101, MIN, MAX);
    }

    private static void bestMoveAccepted() {
        DUE.part("promise 46: all moves that moveQuota would accept; NONE if there is none");
        DUE.same("all of the quota", moves(20, 5).bestMove(20, 2), 10);
        DUE.same("more than each quota", moves(20, 5).bestMove(21, 2), NONE);
        DUE.same("only c has it", moves(20, 25).bestMove(21, 2), 20);
        FishGrader exact = Due.load(plain(0, 0) + Lines.species("a", 10, 10, 1, 1) + Lines.species("b", 10, 25, 1, 1)
                + Lines.items("b", 7) + Lines.items("a", 10, 18));
        exact.advance(1);
        DUE.same("18 of 25 with 7 landed", exact.bestMove(18, 2), 10);
        DUE.same("19 of 25 with 7 landed", exact.bestMove(19, 2), NONE);
        DUE.same("one species", one(0, 0, 1, 100).bestMove(1, 1), NONE);
    }

    private static void bestMoveOrder() {
        DUE.part("promise 46: of equal ones the smallest number; NONE if the sum is not greater than without a move");
        DUE.same("from b or from c", moves(20, 20).bestMove(10, 2), 10);
        DUE.same("before the second item comes", moves(20, 20).bestMove(10, 1), NONE);
        DUE.same("too little", moves(20, 20).bestMove(9, 2), NONE);
        DUE.same("from 0 to 1", Due.load(plain(0, 0) + Lines.species("x", 10, 10, 1, 1) + Lines.species("a", 10, 0, 1, 1)
                + Lines.items("a", 10)).bestMove(10, 1), 1);
        DUE.same("from 2 to 3", Due.load(plain(0, 0) + Lines.species("x", 10, 0, 1, 1) + Lines.species("y", 10, 0, 1, 1)
                + Lines.species("z", 10, 10, 1, 1) + Lines.species("a", 10, 0, 1, 1) + Lines.items("a", 10)).bestMove(10, 1), 23);
        // The gain of a box of a is the loss of a box of b.
        DUE.same("equal sums", Due.load(plain(0, 0) + Lines.species("a", 10, 0, 1, 1) + Lines.species("b", 10, 10, 1, 1)
                + Lines.items("a", 10) + Lines.items("b", 10)).bestMove(10, 2), NONE);
        DUE.same("the greatest sum, not the first", Due.load(plain(0, 0) + Lines.species("x", 10, 10, 1, 1)
                + Lines.species("a", 10, 0, 1, 1) + Lines.species("b", 10, 0, 1, 2) + Lines.items("a", 10)
                + Lines.items("b", 10)).bestMove(10, 2), 2);
    }

    private static void bestLimitRange() {
        DUE.part("promise 47: 1 to 60 ticks");
        // The box of 199 gives 99 away, which is worth 1.
        FishGrader g = Due.load(plain(0, 1) + ";stop 2 59" + Lines.species("a", 100, 9999, 1, 1) + Lines.items("a", 60, 139));
        DUE.same("bestLimit(60)", g.bestLimit(60), 100);
        DUE.same("bestLimit(59)", g.bestLimit(59), 0);
        DUE.same("bestLimit(1)", g.bestLimit(1), 0);
        refusedArgument("bestLimit", g::bestLimit, 0, -1, 61, 100, MIN, MAX);
    }

    private static void bestLimitOrder() {
        DUE.part("promise 47: the smallest LIMIT, of 0, 10, 20 and so on to 1000");
        DUE.same("0 given away", one(50, 1, 1, 60, 40).bestLimit(2), 0);
        DUE.same("1 given away", one(50, 1, 1, 60, 41).bestLimit(2), 10);
        DUE.same("10 given away", one(50, 1, 1, 60, 50).bestLimit(2), 10);
        DUE.same("11 given away", one(50, 1, 1, 60, 51).bestLimit(2), 20);
        DUE.same("99 given away is better than no box", one(50, 1, 1, 60, 139).bestLimit(2), 100);
        DUE.same("100 given away is not", one(50, 1, 1, 60, 140).bestLimit(2), 0);
        // Without the box of the 10 the 5000 has to go into it, as the pool is full.
        DUE.same("990 given away", one(50, 1, 1, 10, 1080, 5000).bestLimit(3), 990);
        DUE.same("1000 given away", one(50, 1, 1, 10, 1090, 5000).bestLimit(3), 1000);
        DUE.same("1001 given away", one(50, 1, 1, 10, 1091, 5000).bestLimit(3), 0);
        DUE.same("no item", one(50, 1, 1).bestLimit(60), 0);
        DUE.part("promise 47: the boxes closed in these ticks");
        FishGrader g = one(50, 1, 1, 160, 60, 41);
        g.advance(1);
        DUE.same("a box closed before", g.release(0, 0), 60);
        g.advance(1);
        DUE.same("bestLimit", g.bestLimit(1), 10);
        DUE.same("the limit stays", g.setLimit(3), 50);
    }

    /** A box of 90, and the pool. */
    private static FishGrader pool(int target, int... weights) {
        int[] all = new int[weights.length + 1];
        all[0] = 90;
        System.arraycopy(weights, 0, all, 1, weights.length);
        FishGrader g = one(0, 10, 1, all);
        g.advance(all.length);
        DUE.same("pooled", g.pooled(), weights.length);
        g.setTarget(0, target);
        return g;
    }

    private static void combinationSets() {
        DUE.part("promise 48: a set of one or more items; NONE if there is no such set");
        DUE.same("an empty pool", pool(100).combination(0, 0), NONE);
        DUE.same("an empty pool, a box at its target", pool(90).combination(0, 0), NONE);
        DUE.same("one item at least", pool(90, 20, 15).combination(0, 0), 2);
        DUE.same("one item at least", pool(50, 20, 15).combination(0, 0), 2);
        DUE.same("one item, exactly", pool(105, 20, 15).combination(0, 0), 2);
        DUE.same("all items, exactly", pool(125, 20, 15).combination(0, 0), 3);
        DUE.same("1 too little", pool(126, 20, 15).combination(0, 0), NONE);
        DUE.same("ten items", pool(200, 11, 11, 11, 11, 11, 11, 11, 11, 11, 11).combination(0, 0), 1023);
        DUE.same("the last of ten", pool(120, 11, 11, 11, 11, 11, 11, 11, 11, 11, 30).combination(0, 0), 512);
        DUE.part("promise 48: items of this species, bit k for the index k in the pool");
        FishGrader g = Due.load(plain(0, 5) + Lines.species("a", 100, 9999, 2, 1) + Lines.species("b", 100, 9999, 1, 1)
                + Lines.items("b", 90, 30) + Lines.items("a", 90, 80, 40) + Lines.items("b", 25) + Lines.items("a", 35));
        g.advance(7);
        DUE.same("pooled", g.pooled(), 4);
        DUE.same("b has the bits 0 and 2", g.combination(1, 0), 4);
        DUE.same("a has the bits 1 and 3", g.combination(0, 0), 8);
        DUE.same("the other box of a", g.combination(0, 1), 8);
        g.setTarget(0, 120);
        DUE.same("80 + 40", g.combination(0, 1), 2);
        g.setTarget(0, 166);
        DUE.same("90 + 75 is too little without b", g.combination(0, 0), NONE);
        g.setTarget(0, 155);
        DUE.same("80 + 75", g.combination(0, 1), 10);
    }

    private static void combinationOrder() {
        DUE.part("promise 48: the smallest giveaway");
        DUE.same("25 of 20, 30 and 26", pool(115, 20, 30, 26).combination(0, 0), 4);
        DUE.same("two items before one", pool(130, 41, 20, 20).combination(0, 0), 6);
        DUE.part("promise 48: of equal ones the set with the fewest items");
        DUE.same("40 before 20 + 20", pool(130, 20, 20, 40).combination(0, 0), 4);
        DUE.same("40 with 5 given away too", pool(125, 20, 20, 40).combination(0, 0), 4);
        DUE.same("two before three", pool(150, 20, 20, 20, 40).combination(0, 0), 9);
        FishGrader light = one(0, 10, 1, 90, 40, 0);
        light.advance(2);
        light.setTarget(0, 50);
        light.advance(1);
        DUE.same("an item of no weight is in the pool", light.pooled(), 2);
        light.setTarget(0, 130);
        DUE.same("without the item of no weight", light.combination(0, 0), 1);
        light.setTarget(0, 90);
        DUE.same("the item of no weight alone", light.combination(0, 0), 2);
        DUE.part("promise 48: of equal ones the smallest bit set");
        DUE.same("the first of two", pool(130, 20, 20, 40, 40).combination(0, 0), 4);
        DUE.same("the bits 0 and 2", pool(150, 20, 20, 40, 40).combination(0, 0), 5);
        DUE.same("the bits 1 and 2 before 0 and 3", pool(150, 30, 40, 20, 30).combination(0, 0), 6);
    }

    private static void lookaheadRange() {
        DUE.part("promise 49: k is 1 to 12");
        FishGrader g = one(0, 0, 1, 9, 9, 9, 9, 9, 9, 9, 9, 9, 9, 9, 9, 100);
        DUE.same("12 are looked at, not 13", g.lookahead(0, 0, 12), 8);
        DUE.same("11 of 9 are 99", g.lookahead(0, 0, 11), NONE);
        DUE.same("lookahead(0, 0, 1)", g.lookahead(0, 0, 1), NONE);
        g.setTarget(0, 109);
        DUE.same("12 of 9 are 108", g.lookahead(0, 0, 12), NONE);
        g.setTarget(0, 9);
        DUE.same("exactly", g.lookahead(0, 0, 1), 0);
        refusedArgument("lookahead", k -> g.lookahead(0, 0, k), 0, -1, 13, MIN, MAX);
    }

    private static void lookaheadSets() {
        DUE.part("promise 49: of the items that have not been handled, the first k whose species this is");
        FishGrader g = Due.load(plain(0, 0) + Lines.species("a", 100, 60, 2, 1) + Lines.species("b", 100, 60, 1, 1)
                + Lines.items("a", 30) + Lines.items("b", 100) + ";item 70 100" + Lines.items("a", 75, 70));
        DUE.same("30", g.lookahead(0, 0, 1), NONE);
        DUE.same("30 + 75", g.lookahead(0, 0, 2), 5);
        DUE.same("30 + 70, above the quota", g.lookahead(0, 0, 3), 0);
        DUE.same("all of them if there are fewer", g.lookahead(0, 0, 4), 0);
        DUE.same("all of them if there are fewer", g.lookahead(0, 0, 12), 0);
        DUE.same("the other species", g.lookahead(1, 0, 12), 0);
        g.advance(1);
        DUE.same("the 30 is in the box: 30 + 75", g.lookahead(0, 0, 1), 5);
        DUE.same("an empty box: 75", g.lookahead(0, 1, 1), NONE);
        DUE.same("an empty box: 75 + 70", g.lookahead(0, 1, 2), 45);
        FishGrader second = Due.load(plain(0, 0) + Lines.species("a", 100, 600, 2, 1) + Lines.species("b", 100, 600, 2, 1)
                + Lines.items("a", 10) + Lines.items("b", 70, 60, 45));
        second.advance(3);
        DUE.same("a box of the second species: 70 + 45", second.lookahead(1, 0, 1), 15);
        DUE.same("its other box: 60 + 45", second.lookahead(1, 1, 1), 5);
        DUE.part("promise 49: any set of one or more items");
        g.setTarget(0, 30);
        DUE.same("one item at least", g.lookahead(0, 0, 12), 70);
        g.addItem(0, 100, 0, 9);
        DUE.same("one of no weight", g.lookahead(0, 0, 12), 0);
        DUE.part("promise 49: NONE if the target cannot be reached");
        g.setTarget(0, 175);
        DUE.same("30 + 75 + 70", g.lookahead(0, 0, 12), 0);
        g.setTarget(0, 176);
        DUE.same("1 too little", g.lookahead(0, 0, 12), NONE);
        g.advance(100);
        g.setTarget(0, 1);
        DUE.same("no item is left, though the box is at its target", g.lookahead(0, 0, 12), NONE);
    }

    private static void iceNeeded() {
        DUE.part("promise 50: what all waiting boxes need, minus the ice, but at least 0");
        FishGrader g = Due.load(plain(0, 0) + Lines.ice(10, 12, 99, 0, 0) + Lines.species("a", 101, 999, 1, 1)
                + Lines.items("a", 101, 101, 101, 249));
        DUE.same("no box", g.iceNeeded(), 0);
        g.advance(1);
        DUE.same("11 of 12: less than 0", g.iceNeeded(), 0);
        g.advance(1);
        DUE.same("one box waits, 13 are there", g.iceNeeded(), 0);
        g.advance(2);
        DUE.same("ice", g.ice(), 15);
        DUE.same("25 for the last box", g.iceNeeded(), 10);
        FishGrader dry = Due.load(plain(0, 0) + Lines.ice(1, 0, 0, 0, 0) + Lines.species("a", 1, 999, 1, 1)
                + Lines.items("a", 1, 100, 101));
        dry.advance(3);
        DUE.same("each is rounded up: 1 + 1 + 2", dry.iceNeeded(), 4);
        FishGrader even = Due.load(plain(0, 0) + Lines.ice(100, 7, 99, 0, 0) + Lines.species("a", 1, 999, 1, 1)
                + Lines.items("a", 7));
        even.advance(1);
        DUE.same("just enough", even.iceNeeded(), 0);
    }
}
