import java.util.ArrayDeque;
import java.util.ArrayList;
import java.util.Deque;
import java.util.List;
import java.util.NoSuchElementException;

/** The boundary cases of section 4 and of promises 51 to 65 (changes and texts), in the order of their sentences. */
public final class BoundaryChangeTest {
    private static final Due DUE = new Due();
    private static final int NONE = FishGrader.NONE;
    private static final int MIN = Integer.MIN_VALUE;
    private static final int MAX = Integer.MAX_VALUE;

    public static void main(String[] args) {
        firstListedException();
        withoutGrader();
        refusedCallsChangeNothing();
        whatIfsChangeNothing();
        everyChangeIsUndone();
        latestEight();
        failedLoadKeepsChanges();
        advance();
        combine();
        combineRefused();
        release();
        fullPool();
        releaseRefused();
        addItemRange();
        addItemIsPlain();
        eightyItems();
        setRule();
        setLimit();
        setTarget();
        moveQuotaRange();
        moveQuotaLanded();
        undo();
        saveAndRestore();
        restoreAcrossLoads();
        label();
        report();
        labelByte();
        manyCalls();
        DUE.end();
    }

    private static String plain(int limit, int pool) {
        return Lines.head(0, limit, pool);
    }

    private static FishGrader one(int limit, int pool, int boxes, int... weights) {
        return Due.load(plain(limit, pool) + Lines.species("a", 100, 99999, boxes, 1) + Lines.items("a", weights));
    }

    /** Something of everything: closed and iced boxes, late ones, a pool of two species, all fates of items. */
    private static FishGrader rich() {
        FishGrader g = Due.load(Lines.head(5, 5, 4) + Lines.ice(50, 14, 80, 1, 10) + ";stop 4 5"
                + Lines.species("a", 100, 600, 2, 3) + Lines.species("b", 90, 300, 1, 1) + Lines.species("c", 50, 40, 3, 2)
                + Lines.items("a", 60, 70, 44) + Lines.items("b", 60, 31) + Lines.items("a", 90, 80)
                + Lines.items("b", 60, 50, 95) + Lines.items("c", 30, 11)
                + ";item 5 5 vote a 4 vote b 3;item 7 100" + Lines.items("a", 95, 55, 15, 20) + Lines.items("b", 10));
        g.advance(19);
        return g;
    }

    private static final class Refused {
        private final String what;
        private final Class<? extends RuntimeException> due;
        private final Runnable call;

        private Refused(String what, Class<? extends RuntimeException> due, Runnable call) {
            this.what = what;
            this.due = due;
            this.call = call;
        }
    }

    private static final class RefusedCalls {
        private final List<Refused> all = new ArrayList<>();

        private void state(String what, Runnable call) {
            all.add(new Refused(what, IllegalStateException.class, call));
        }

        private void index(String what, Runnable call) {
            all.add(new Refused(what, IndexOutOfBoundsException.class, call));
        }

        private void argument(String what, Runnable call) {
            all.add(new Refused(what, IllegalArgumentException.class, call));
        }
    }

    // ---- section 4

    private static void firstListedException() {
        DUE.part("section 4: if several exceptions apply, the one that is listed first is thrown");
        FishGrader g = rich();
        DUE.index("firstClosed(3, 0)", () -> g.firstClosed(3, 0));
        DUE.index("firstClosed(-1, 101)", () -> g.firstClosed(-1, 101));
        DUE.index("lookahead(3, 0, 0)", () -> g.lookahead(3, 0, 0));
        DUE.index("lookahead(1, 1, 13)", () -> g.lookahead(1, 1, 13));
        DUE.index("setTarget(3, 0)", () -> g.setTarget(3, 0));
        DUE.index("moveQuota(3, 3, 0)", () -> g.moveQuota(3, 3, 0));
        DUE.index("moveQuota(0, 3, 0)", () -> g.moveQuota(0, 3, 0));
        DUE.index("moveQuota(0, -1, 1000000)", () -> g.moveQuota(0, -1, 1000000));
        DUE.index("addItem(-1, 0, 3, 0)", () -> g.addItem(-1, 0, 3, 0));
        FishGrader empty = one(0, 0, 1);
        DUE.index("combine(0, 1) of an empty pool", () -> empty.combine(0, 1));
        DUE.index("combine(1, 0) of an empty pool", () -> empty.combine(1, 0));
    }

    /** With -1 and 0 another exception would apply as well, with 1 none of those that need no grader. */
    private static void withoutGrader() {
        DUE.part("section 4: IllegalStateException, before all others, if there is no grader");
        FishGrader g = new FishGrader();
        for (int i = -1; i <= 1; i++) {
            int k = i;
            Runnable[] calls = {() -> g.weight(k), () -> g.score(k, k), () -> g.speciesOf(k), () -> g.stateOf(k),
                () -> g.boxOf(k), () -> g.agreement(k), () -> g.content(k, k), () -> g.itemsIn(k, k),
                () -> g.closedSpecies(k), () -> g.closedWeight(k), () -> g.giveaway(k), () -> g.closedAt(k),
                () -> g.icedAt(k), () -> g.nextIced(k), () -> g.worstBox(k), () -> g.poolItem(k), () -> g.isStopped(k),
                () -> g.late(), () -> g.landed(k), () -> g.discarded(k), () -> g.quota(k), () -> g.target(k),
                () -> g.totalGiveaway(k), () -> g.earnings(k), () -> g.meanGiveaway(k, true),
                () -> g.meanGiveaway(k, false), () -> g.closedIn(k), () -> g.giveawayIn(k), () -> g.firstClosed(k, k),
                () -> g.firstLate(k), () -> g.bestRule(k), () -> g.bestMove(k, k), () -> g.bestLimit(k),
                () -> g.combination(k, k), () -> g.lookahead(k, k, k), () -> g.iceNeeded(), () -> g.advance(k),
                () -> g.combine(k, k), () -> g.release(k, k), () -> g.addItem(k, k, k, k), () -> g.setRule(k),
                () -> g.setLimit(k), () -> g.setTarget(k, k), () -> g.moveQuota(k, k, k), () -> g.moveQuota(0, 1, k),
                () -> g.undo(), () -> g.save(), () -> g.restore(), () -> g.label(k), () -> g.report()};
            for (int c = 0; c < calls.length; c++) {
                DUE.state("call " + c + " with " + k, calls[c]);
            }
        }
        DUE.same("undoable", g.undoable(), 0);
        DUE.same("items", g.items(), 0);
    }

    /** Calls that are refused in the rich grader. */
    private static List<Refused> refusedCalls(FishGrader g) {
        RefusedCalls r = new RefusedCalls();
        r.index("load(21)", () -> g.load(21));
        r.index("load(-1)", () -> g.load(-1));
        r.index("weight", () -> g.weight(-1));
        r.index("score", () -> g.score(0, 3));
        r.index("content", () -> g.content(1, 1));
        r.index("closedWeight", () -> g.closedWeight(-1));
        r.index("nextIced", () -> g.nextIced(80));
        r.index("worstBox", () -> g.worstBox(80));
        r.index("poolItem", () -> g.poolItem(10));
        r.argument("isStopped", () -> g.isStopped(0));
        r.index("landed", () -> g.landed(3));
        r.argument("closedIn", () -> g.closedIn(101));
        r.argument("giveawayIn", () -> g.giveawayIn(0));
        r.argument("firstClosed", () -> g.firstClosed(0, 0));
        r.argument("firstLate", () -> g.firstLate(101));
        r.argument("bestRule", () -> g.bestRule(0));
        r.argument("bestMove", () -> g.bestMove(1000000, 1));
        r.argument("bestLimit", () -> g.bestLimit(61));
        r.index("combination", () -> g.combination(0, 2));
        r.argument("lookahead", () -> g.lookahead(0, 0, 13));
        r.argument("advance(0)", () -> g.advance(0));
        r.argument("advance(101)", () -> g.advance(101));
        r.index("combine", () -> g.combine(0, 2));
        r.all.add(new Refused("combine(2, 0)", NoSuchElementException.class, () -> g.combine(2, 0)));
        r.index("release, index", () -> g.release(g.pooled(), 0));
        r.index("release, place", () -> g.release(0, 3));
        r.index("addItem, species", () -> g.addItem(1, 1, 3, 1));
        r.argument("addItem, reading", () -> g.addItem(20001, 1, 0, 1));
        r.argument("addItem, ref", () -> g.addItem(1, 0, 0, 1));
        r.argument("addItem, confidence", () -> g.addItem(1, 1, 0, 100));
        r.argument("setRule", () -> g.setRule(3));
        r.argument("setLimit", () -> g.setLimit(10000));
        r.index("setTarget, species", () -> g.setTarget(3, 1));
        r.argument("setTarget", () -> g.setTarget(0, 0));
        r.index("moveQuota, species", () -> g.moveQuota(0, 3, 1));
        r.argument("moveQuota, same", () -> g.moveQuota(0, 0, 1));
        r.argument("moveQuota, amount", () -> g.moveQuota(0, 1, 601));
        r.index("label", () -> g.label(80));
        r.index("labelByte", () -> g.labelByte(-1));
        return r.all;
    }

    private static void refusedCallsChangeNothing() {
        DUE.part("section 4: a call that throws an exception changes nothing");
        FishGrader g = rich();
        DUE.same("closed boxes", g.closed(), 4);
        DUE.same("also of the second species", g.closedSpecies(1), 1);
        DUE.same("iced after its due time, 4", g.icedAt(0), 5);
        DUE.same("iced after its due time, 8", g.icedAt(1), 9);
        DUE.same("late", g.late(), 2);
        DUE.same("one that waits", g.nextIced(0), 3);
        DUE.same("pooled", g.pooled(), 4);
        for (int i = 0; i < 8; i++) {
            g.setLimit(20 + i);
        }
        g.report();
        Due.append(g, "x");
        String before = Snapshot.of(g);
        for (Refused refused : refusedCalls(g)) {
            DUE.fails(refused.what, refused.due, refused.call);
            DUE.same(refused.what + " changed something", Snapshot.of(g), before);
        }
        DUE.same("the limit stays, and the latest change is this one", g.undo(), 7);
        DUE.same("the limit before it", g.setLimit(0), 26);
        FishGrader fresh = one(0, 0, 1, 100);
        String atFirst = Snapshot.of(fresh);
        DUE.state("undo", () -> fresh.undo());
        DUE.state("restore", () -> fresh.restore());
        DUE.same("nothing to undo or restore", Snapshot.of(fresh), atFirst);
    }

    private static void whatIfsChangeNothing() {
        DUE.part("section 4: a what-if question changes nothing");
        FishGrader g = Due.load(plain(0, 3) + Lines.ice(10, 6, 50, 2, 10) + Lines.species("a", 100, 300, 2, 3)
                + Lines.species("b", 90, 300, 1, 1) + Lines.items("a", 60, 70, 44, 90, 80) + Lines.items("b", 60, 50, 95)
                + Lines.items("a", 55, 15, 20));
        for (int i = 0; i < 12; i++) {
            g.setRule(i % 3);
            String before = Snapshot.of(g);
            g.closedIn(100);
            g.giveawayIn(50);
            g.firstClosed(0, 100);
            g.firstClosed(1, 100);
            g.firstLate(100);
            g.bestRule(100);
            g.bestMove(50, 100);
            g.bestLimit(60);
            g.combination(0, 0);
            g.lookahead(0, 0, 12);
            g.iceNeeded();
            DUE.same("state at time " + i, Snapshot.of(g), before);
            DUE.same("what is said comes true", g.closedIn(1), g.advance(1));
        }
        DUE.same("the limit stays", g.setLimit(1), 0);
    }

    private static void changeAndUndo(String what, FishGrader g, Runnable change) {
        String before = Snapshot.ofState(g);
        int undoable = g.undoable();
        change.run();
        DUE.same(what + " can be undone", g.undoable(), undoable + 1);
        DUE.same(what + " undone", g.undo(), undoable);
        DUE.same(what + ", the state before it", Snapshot.ofState(g), before);
    }

    private static void everyChangeIsUndone() {
        DUE.part("section 4: each change can be undone, and is one change");
        FishGrader g = rich();
        changeAndUndo("advance", g, () -> g.advance(100));
        changeAndUndo("combine", g, () -> g.combine(0, 0));
        changeAndUndo("release", g, () -> g.release(0, 0));
        changeAndUndo("addItem", g, () -> g.addItem(100, 100, 0, 9));
        changeAndUndo("setRule", g, () -> g.setRule(1));
        changeAndUndo("setLimit", g, () -> g.setLimit(9999));
        changeAndUndo("setTarget", g, () -> g.setTarget(0, 1));
        changeAndUndo("moveQuota", g, () -> g.moveQuota(0, 1, 1));
        DUE.part("section 4: a change to the same value is a change");
        changeAndUndo("setRule", g, () -> g.setRule(g.rule()));
        changeAndUndo("setTarget", g, () -> g.setTarget(0, g.target(0)));
        DUE.part("section 4: save, label, report and questions are no changes");
        g.save();
        g.report();
        g.label(0);
        g.closedIn(9);
        DUE.same("undoable", g.undoable(), 1);
    }

    private static void latestEight() {
        DUE.part("section 4: only the latest 8 changes are kept, the latest one is undone first");
        FishGrader g = rich();
        Deque<String> before = new ArrayDeque<>();
        Runnable[] changes = {() -> g.addItem(100, 100, 1, 9), () -> g.setRule(2), () -> g.advance(2), () -> g.setTarget(1, 45),
            () -> g.release(0, 0), () -> g.moveQuota(0, 1, 20), () -> g.setLimit(30), () -> g.advance(3), () -> g.setRule(0),
            () -> g.addItem(30, 100, 0, 9), () -> g.advance(1)};
        for (int i = 0; i < changes.length; i++) {
            before.push(Snapshot.ofState(g));
            changes[i].run();
            DUE.same("undoable", g.undoable(), Math.min(i + 2, 8));
        }
        for (int i = 7; i >= 0; i--) {
            DUE.same("undo", g.undo(), i);
            DUE.same("the state before the change", Snapshot.ofState(g), before.pop());
        }
        DUE.state("the ninth", () -> g.undo());
        DUE.same("undoable", g.undoable(), 0);
    }

    private static void failedLoadKeepsChanges() {
        DUE.part("section 4: since the last successful call of load");
        FishGrader g = one(0, 0, 1, 50);
        g.advance(1);
        Due.append(g, "x");
        DUE.argument("load", () -> g.load(1));
        DUE.same("undoable", g.undoable(), 1);
        DUE.same("undo", g.undo(), 0);
        DUE.same("time", g.time(), 0);
    }

    // ---- changes

    private static void advance() {
        DUE.part("promise 51: 1 to 100 ticks, one change");
        FishGrader g = Due.load(plain(0, 0) + ";stop 2 99" + Lines.species("a", 100, 999, 1, 1)
                + Lines.items("a", 100, 100, 100));
        for (int bad : new int[] {0, -1, 101, MIN, MAX}) {
            DUE.argument("advance(" + bad + ")", () -> g.advance(bad));
        }
        DUE.same("time", g.time(), 0);
        DUE.same("advance(100)", g.advance(100), 2);
        DUE.same("time", g.time(), 100);
        DUE.same("only the boxes closed in them", g.advance(1), 1);
        DUE.same("none", g.advance(1), 0);
        DUE.same("undoable", g.undoable(), 3);
        g.undo();
        g.undo();
        DUE.same("undo", g.undo(), 0);
        DUE.same("time", g.time(), 0);
        DUE.same("advance(1)", g.advance(1), 1);
    }

    /** Box 0 holds 90, box 1 holds 80; in the pool are 30, 25 and 40, of a, and 35, of b, at the index 1. */
    private static FishGrader pooled() {
        FishGrader g = Due.load(plain(0, 9) + Lines.species("a", 100, 999, 2, 1) + Lines.species("b", 100, 999, 1, 1)
                + Lines.items("a", 90, 80, 30) + Lines.items("b", 70, 35) + Lines.items("a", 25, 40));
        g.advance(7);
        DUE.same("pooled", g.pooled(), 4);
        return g;
    }

    private static void combine() {
        DUE.part("promise 52: the best combination goes from the pool into the box, which is closed then");
        FishGrader g = pooled();
        DUE.same("25 is the best", g.combination(0, 1), 4);
        DUE.same("the number of the box", g.combine(0, 1), 0);
        DUE.same("closedWeight", g.closedWeight(0), 105);
        DUE.same("closedAt: the time stays", g.closedAt(0), 7);
        DUE.same("time", g.time(), 7);
        DUE.same("content", g.content(0, 1), 0);
        DUE.same("the other box", g.content(0, 0), 90);
        int[] rest = {2, 4, 6};
        for (int i = 0; i < rest.length; i++) {
            DUE.same("poolItem(" + i + ")", g.poolItem(i), rest[i]);
        }
        g.setTarget(0, 160);
        DUE.same("30 + 40 of the rest", g.combination(0, 0), 5);
        DUE.same("the next number", g.combine(0, 0), 1);
        DUE.same("exactly", g.giveaway(1), 0);
        DUE.same("pooled", g.pooled(), 1);
        DUE.same("poolItem(0)", g.poolItem(0), 4);
        DUE.same("boxOf(0)", g.boxOf(0), 1);
        DUE.same("boxOf(2)", g.boxOf(2), 1);
        DUE.same("boxOf(6)", g.boxOf(6), 1);
        DUE.same("landed stays", g.landed(0), 265);
        DUE.same("the other species", g.combine(1, 0), 2);
        DUE.same("the pool is empty", g.pooled(), 0);
        DUE.part("promise 52: a box that is closed waits for ice, and is due at the time plus DUE");
        DUE.same("nextIced(2)", g.nextIced(2), 2);
        DUE.same("not late", g.late(), 0);
        g.advance(1);
        DUE.same("icedAt", g.icedAt(2), 8);
        DUE.same("late: due at 7", g.late(), 3);
    }

    private static void combineRefused() {
        DUE.part("promise 52: NoSuchElementException if there is no such set");
        FishGrader g = pooled();
        g.setTarget(0, 185);
        DUE.same("90 + 95 is enough", g.combination(0, 0), 13);
        DUE.fails("80 + 95 is not", NoSuchElementException.class, () -> g.combine(0, 1));
        DUE.same("undoable", g.undoable(), 2);
        DUE.same("combine(0, 0)", g.combine(0, 0), 0);
        DUE.fails("no item of the species is left", NoSuchElementException.class, () -> g.combine(0, 0));
        FishGrader empty = one(0, 0, 1, 60);
        empty.advance(1);
        empty.setTarget(0, 50);
        DUE.fails("an empty pool, a box above its target", NoSuchElementException.class, () -> empty.combine(0, 0));
    }

    private static void release() {
        DUE.part("promise 53: closed if the content is at least the target; the giveaway, or NONE");
        FishGrader g = one(0, 9, 2, 90, 80, 20, 30);
        g.advance(3);
        DUE.same("20 closes the box of 80 by case 1", g.closed(), 1);
        FishGrader h = pooled();
        DUE.same("80 + 30", h.release(0, 1), 10);
        DUE.same("closed", h.closed(), 1);
        DUE.same("the empty box", h.release(1, 1), NONE);
        DUE.same("content", h.content(0, 1), 25);
        DUE.same("stateOf", h.stateOf(5), 4);
        DUE.same("boxOf", h.boxOf(5), 1);
        h.setTarget(0, 66);
        DUE.same("25 + 40 is 1 too little", h.release(1, 1), NONE);
        h.undo();
        h.undo();
        h.setTarget(0, 65);
        DUE.same("25 + 40 exactly", h.release(1, 1), 0);
        DUE.same("time", h.time(), 7);
        DUE.same("into a box of its species", h.release(0, 0), 5);
        DUE.same("closedSpecies", h.closedSpecies(2), 1);
        DUE.same("pooled", h.pooled(), 0);
        DUE.part("promise 53: a box that is above a new target is closed by it");
        FishGrader low = one(0, 1, 1, 60, 70);
        low.advance(2);
        low.setTarget(0, 10);
        DUE.same("60 + 70 - 10", low.release(0, 0), 120);
    }

    private static void fullPool() {
        DUE.part("promises 52 and 53: a pool of 10 items");
        FishGrader g = one(0, 10, 1, 95, 10, 11, 12, 13, 14, 15, 16, 17, 18, 19, 20);
        g.advance(11);
        DUE.same("pooled", g.pooled(), 10);
        DUE.index("release(10, 0)", () -> g.release(10, 0));
        DUE.same("the first item", g.release(0, 0), 5);
        DUE.same("pooled", g.pooled(), 9);
        DUE.same("poolItem(0)", g.poolItem(0), 2);
        DUE.same("poolItem(8)", g.poolItem(8), 10);
        DUE.index("poolItem(9)", () -> g.poolItem(9));
        g.undo();
        DUE.same("the last item", g.release(9, 0), 14);
        DUE.same("poolItem(8)", g.poolItem(8), 9);
        g.undo();
        g.setTarget(0, 240);
        DUE.same("all ten", g.combine(0, 0), 0);
        DUE.same("closedWeight", g.closedWeight(0), 240);
        DUE.same("pooled", g.pooled(), 0);
        g.advance(1);
        DUE.same("the last item is put into the new box", g.content(0, 0), 20);
    }

    private static void releaseRefused() {
        DUE.part("promise 53: no such index in the pool, or no such place");
        FishGrader g = pooled();
        for (int bad : new int[] {-1, 4, 9, 10, MIN, MAX}) {
            DUE.index("release(" + bad + ", 0)", () -> g.release(bad, 0));
        }
        for (int bad : new int[] {-1, 2, 3, MIN, MAX}) {
            DUE.index("release(0, " + bad + ")", () -> g.release(0, bad));
        }
        DUE.index("the item at 1 is of b, which has one box", () -> g.release(1, 1));
        DUE.same("the last item", g.release(3, 1), 20);
        DUE.same("undoable", g.undoable(), 2);
        FishGrader empty = one(0, 3, 1);
        DUE.index("an empty pool", () -> empty.release(0, 0));
    }

    private static void addItemRange() {
        DUE.part("promise 54: reading 0 to 20000, ref 1 to 9999, confidence 1 to 99");
        FishGrader g = one(0, 0, 1);
        DUE.same("the smallest", g.addItem(0, 1, 0, 1), 0);
        DUE.same("weight", g.weight(0), 0);
        DUE.same("score", g.score(0, 0), 1);
        DUE.same("the greatest", g.addItem(20000, 9999, 0, 99), 1);
        DUE.same("weight", g.weight(1), 200);
        DUE.same("score", g.score(1, 0), 99);
        DUE.same("at most 60000", g.addItem(20000, 1, 0, 99), 2);
        DUE.same("weight", g.weight(2), 60000);
        for (int bad : new int[] {-1, 20001, MIN, MAX}) {
            DUE.argument("reading " + bad, () -> g.addItem(bad, 1, 0, 1));
        }
        for (int bad : new int[] {0, -1, 10000, MIN, MAX}) {
            DUE.argument("ref " + bad, () -> g.addItem(1, bad, 0, 1));
        }
        for (int bad : new int[] {0, -1, 100, MIN, MAX}) {
            DUE.argument("confidence " + bad, () -> g.addItem(1, 1, 0, bad));
        }
        for (int bad : new int[] {-1, 1, 4, MIN, MAX}) {
            DUE.index("species " + bad, () -> g.addItem(1, 1, bad, 1));
        }
        DUE.same("items", g.items(), 3);
        DUE.same("undoable", g.undoable(), 3);
    }

    private static void addItemIsPlain() {
        DUE.part("promise 54: behind all others, with one sample and one vote");
        FishGrader g = Due.load(Lines.head(5, 0, 0) + Lines.species("a", 100, 999, 1, 1) + Lines.species("b", 100, 999, 1, 1)
                + Lines.items("a", 10));
        g.advance(1);
        DUE.same("less than MARGIN", g.addItem(15, 1000, 1, 4), 1);
        DUE.same("speciesOf", g.speciesOf(1), NONE);
        DUE.same("at MARGIN", g.addItem(15, 1000, 1, 5), 2);
        DUE.same("speciesOf", g.speciesOf(2), 1);
        DUE.same("1.5, halves up", g.weight(2), 2);
        DUE.same("stateOf", g.stateOf(2), 0);
        DUE.same("boxOf", g.boxOf(2), NONE);
        DUE.same("score of another species", g.score(2, 0), 0);
        g.advance(1);
        DUE.same("rejected", g.stateOf(1), 1);
        g.advance(1);
        DUE.same("handled", g.content(1, 0), 2);
        DUE.part("promise 54: an item added again has nothing of the undone one");
        g.addItem(50, 100, 0, 99);
        g.undo();
        DUE.same("addItem", g.addItem(7, 100, 1, 6), 3);
        DUE.same("score", g.score(3, 0), 0);
        DUE.same("score", g.score(3, 1), 6);
        DUE.same("weight", g.weight(3), 7);
        DUE.same("agreement", g.agreement(3), 6);
        DUE.part("promise 54: nor of one that a restored state does not have");
        FishGrader h = Due.load(plain(0, 0) + Lines.species("a", 100, 999, 1, 1) + Lines.species("b", 100, 999, 1, 1));
        h.save();
        for (int round = 0; round < 3; round++) {
            DUE.same("addItem", h.addItem(50, 100, round % 2, 9), 0);
            DUE.same("stateOf", h.stateOf(0), 0);
            DUE.same("boxOf", h.boxOf(0), NONE);
            DUE.same("speciesOf", h.speciesOf(0), round % 2);
            DUE.same("score", h.score(0, round % 2), 9);
            DUE.same("score of the other", h.score(0, 1 - round % 2), 0);
            h.advance(1);
            DUE.same("stateOf", h.stateOf(0), 4);
            h.restore();
        }
    }

    private static void eightyItems() {
        DUE.part("promise 54: IllegalStateException if there are 80 items, checked last");
        FishGrader g = Due.load(plain(0, 0) + Lines.species("a", 1, 999999, 1, 1) + ";item 1 1 vote a 5".repeat(60));
        for (int i = 60; i < 80; i++) {
            DUE.same("addItem", g.addItem(1, 1, 0, 9), i);
        }
        DUE.state("the 81st", () -> g.addItem(1, 1, 0, 9));
        DUE.argument("reading", () -> g.addItem(-1, 1, 0, 9));
        DUE.argument("ref", () -> g.addItem(1, 0, 0, 9));
        DUE.argument("confidence", () -> g.addItem(1, 1, 0, 0));
        DUE.index("species", () -> g.addItem(-1, 0, 1, 0));
        DUE.same("items", g.items(), 80);
        DUE.same("undoable", g.undoable(), 8);
        DUE.same("no item in the box of 80 items", g.itemsIn(0, 0), 0);
        DUE.same("none of 80 is rejected", g.rejected(), 0);
        DUE.same("80 boxes", g.advance(80), 80);
        DUE.state("handled items count too", () -> g.addItem(1, 1, 0, 9));
        g.undo();
        g.undo();
        DUE.same("room for one", g.addItem(1, 1, 0, 9), 79);
        DUE.state("and no more", () -> g.addItem(1, 1, 0, 9));
    }

    private static void setRule() {
        DUE.part("promise 55: 0 to 2");
        FishGrader g = one(0, 0, 1);
        DUE.same("setRule(2)", g.setRule(2), 0);
        DUE.same("setRule(1)", g.setRule(1), 2);
        DUE.same("setRule(0)", g.setRule(0), 1);
        DUE.same("setRule(2)", g.setRule(2), 0);
        for (int bad : new int[] {-1, 3, MIN, MAX}) {
            DUE.argument("setRule(" + bad + ")", () -> g.setRule(bad));
        }
        DUE.same("rule", g.rule(), 2);
        DUE.same("undoable", g.undoable(), 4);
    }

    private static void setLimit() {
        DUE.part("promise 56: 0 to 9999");
        FishGrader g = one(7, 1, 1, 60, 48);
        DUE.same("setLimit(9999)", g.setLimit(9999), 7);
        DUE.same("setLimit(0)", g.setLimit(0), 9999);
        for (int bad : new int[] {-1, 10000, MIN, MAX}) {
            DUE.argument("setLimit(" + bad + ")", () -> g.setLimit(bad));
        }
        DUE.same("setLimit(8)", g.setLimit(8), 0);
        DUE.same("108 is within 8", g.closedIn(2), 1);
        DUE.same("setLimit(7)", g.setLimit(7), 8);
        DUE.same("108 is not within 7", g.closedIn(2), 0);
        DUE.same("undo", g.undo(), 3);
        DUE.same("108 is within 8 again", g.closedIn(2), 1);
    }

    private static void setTarget() {
        DUE.part("promise 57: 1 to 30000");
        FishGrader g = one(0, 0, 2, 60, 5, 1);
        DUE.same("setTarget(0, 1)", g.setTarget(0, 1), 100);
        DUE.same("setTarget(0, 30000)", g.setTarget(0, 30000), 1);
        DUE.same("target", g.target(0), 30000);
        for (int bad : new int[] {0, -1, 30001, MIN, MAX}) {
            DUE.argument("setTarget(0, " + bad + ")", () -> g.setTarget(0, bad));
        }
        for (int bad : new int[] {-1, 1, 4, MIN, MAX}) {
            DUE.index("setTarget(" + bad + ", 5)", () -> g.setTarget(bad, 5));
        }
        DUE.same("target", g.target(0), 30000);
        DUE.part("promise 57: an open box at the new target stays open until an item is put into it");
        g.advance(1);
        DUE.same("setTarget(0, 60)", g.setTarget(0, 60), 30000);
        DUE.same("closed", g.closed(), 0);
        DUE.same("content", g.content(0, 0), 60);
        DUE.same("the 5 goes into the other box", g.advance(1), 0);
        DUE.same("content(0, 1)", g.content(0, 1), 5);
        g.setTarget(0, 4);
        DUE.same("the 1 goes into the smaller sum", g.advance(1), 1);
        DUE.same("giveaway", g.giveaway(0), 2);
        DUE.same("the other stays open", g.content(0, 0), 60);
    }

    private static void moveQuotaRange() {
        DUE.part("promise 58: amount 1 to 999999, two species");
        FishGrader g = Due.load(plain(0, 0) + Lines.species("a", 100, 999999, 1, 1) + Lines.species("b", 100, 0, 1, 1));
        for (int bad : new int[] {0, -1, 1000000, MIN, MAX}) {
            DUE.argument("amount " + bad, () -> g.moveQuota(0, 1, bad));
        }
        DUE.argument("both are the same", () -> g.moveQuota(0, 0, 1));
        DUE.argument("both are the same", () -> g.moveQuota(1, 1, 1));
        for (int bad : new int[] {-1, 2, 4, MIN, MAX}) {
            DUE.index("from " + bad, () -> g.moveQuota(bad, 0, 1));
            DUE.index("to " + bad, () -> g.moveQuota(0, bad, 1));
            DUE.index("both " + bad, () -> g.moveQuota(bad, bad, 1));
        }
        DUE.argument("a quota of 0", () -> g.moveQuota(1, 0, 1));
        DUE.same("1", g.moveQuota(0, 1, 1), 999998);
        DUE.argument("the quota is less than amount", () -> g.moveQuota(0, 1, 999999));
        DUE.same("back", g.moveQuota(1, 0, 1), 0);
        DUE.same("all", g.moveQuota(0, 1, 999999), 0);
        DUE.same("quota(1)", g.quota(1), 999999);
        DUE.same("undoable", g.undoable(), 3);
        FishGrader rich = Due.load(plain(0, 0) + Lines.species("a", 9, 999999, 1, 1) + Lines.species("b", 9, 999999, 1, 1));
        DUE.same("more than a text may say", rich.moveQuota(0, 1, 2) + rich.quota(1), 999997 + 1000001);
        DUE.argument("amount 1000000 of 1000001", () -> rich.moveQuota(1, 0, 1000000));
    }

    private static void moveQuotaLanded() {
        DUE.part("promise 58: the quota of the first species would be less than its landed weight");
        FishGrader g = Due.load(plain(0, 0) + Lines.species("a", 100, 50, 1, 1) + Lines.species("b", 100, 5, 1, 1)
                + Lines.items("a", 30, 1) + Lines.items("b", 6));
        g.advance(1);
        DUE.argument("21 of 50 with 30 landed", () -> g.moveQuota(0, 1, 21));
        DUE.same("20 of 50 with 30 landed", g.moveQuota(0, 1, 20), 30);
        DUE.argument("nothing is left", () -> g.moveQuota(0, 1, 1));
        g.advance(2);
        DUE.same("no quota is left", g.stateOf(1), 2);
        DUE.same("the moved quota counts", g.landed(1), 6);
        DUE.same("19 of 25 with 6 landed", g.moveQuota(1, 0, 19), 6);
    }

    private static void undo() {
        DUE.part("promise 59: IllegalStateException if there is none");
        FishGrader none = new FishGrader();
        DUE.state("no grader", () -> none.undo());
        FishGrader g = one(0, 0, 1, 50, 60);
        DUE.state("no change", () -> g.undo());
        DUE.same("undoable", g.undoable(), 0);
        g.setRule(1);
        DUE.same("undo", g.undo(), 0);
        DUE.state("the change was undone", () -> g.undo());
        DUE.part("promise 59: the latest change that was not undone yet");
        g.setRule(1);
        g.setRule(2);
        g.undo();
        DUE.same("rule", g.rule(), 1);
        g.setLimit(5);
        DUE.same("undo", g.undo(), 1);
        DUE.same("rule", g.rule(), 1);
        DUE.same("undo", g.undo(), 0);
        DUE.same("rule", g.rule(), 0);
        DUE.part("promise 60: 0 to 8");
        for (int i = 1; i <= 20; i++) {
            g.setLimit(i);
            DUE.same("undoable", g.undoable(), Math.min(i, 8));
        }
        for (int round = 0; round < 3; round++) {
            DUE.same("undo", g.undo(), 7);
            g.setLimit(99);
            DUE.same("undoable", g.undoable(), 8);
        }
        for (int i = 7; i >= 0; i--) {
            DUE.same("undo", g.undo(), i);
        }
        DUE.same("the limit before the latest eight", g.setLimit(0), 12);
    }

    private static void saveAndRestore() {
        DUE.part("promises 61 and 62: the saved state stays saved, nothing can be undone afterwards");
        FishGrader g = rich();
        DUE.state("no state is saved", () -> g.restore());
        DUE.same("undoable stays", g.undoable(), 1);
        DUE.same("save", g.save(), 19);
        String saved = Snapshot.ofState(g);
        DUE.same("save is no change", g.undoable(), 1);
        for (int i = 0; i < 3; i++) {
            g.setRule(2);
            g.setLimit(77);
            g.setTarget(1, 40);
            g.moveQuota(0, 2, 9);
            g.release(0, 0);
            g.addItem(70, 100, 2, 9);
            g.advance(5 + i);
            DUE.same("restore", g.restore(), 19);
            DUE.same("the saved state", Snapshot.ofState(g), saved);
            DUE.same("undoable", g.undoable(), 0);
            DUE.state("nothing can be undone", () -> g.undo());
            DUE.same("the limit too", g.setLimit(9), 5);
            DUE.same("a change since then can be undone", g.undo(), 0);
        }
        g.advance(1);
        DUE.same("in place of the one before", g.save(), 20);
        g.advance(3);
        DUE.same("restore", g.restore(), 20);
        g.restore();
        DUE.same("twice", g.time(), 20);
        DUE.part("promise 62: undo does not touch the saved state");
        g.setTarget(0, 55);
        g.save();
        g.undo();
        DUE.same("target", g.target(0), 100);
        g.restore();
        DUE.same("target", g.target(0), 55);
    }

    private static void restoreAcrossLoads() {
        DUE.part("promises 61 and 62: no grader, and load");
        FishGrader none = new FishGrader();
        DUE.state("save", () -> none.save());
        DUE.state("restore", () -> none.restore());
        FishGrader g = one(0, 0, 1, 50, 60);
        g.advance(1);
        g.save();
        Due.append(g, "x");
        DUE.argument("a load that fails", () -> g.load(1));
        g.advance(1);
        DUE.same("the state is still saved", g.restore(), 1);
        String text = plain(0, 0) + Lines.species("z", 7, 7, 3, 7);
        Due.append(g, text);
        g.load(text.length());
        DUE.state("a load that succeeds", () -> g.restore());
        DUE.same("save", g.save(), 0);
        DUE.same("restore", g.restore(), 0);
        DUE.same("target", g.target(0), 7);
    }

    // ---- texts

    private static void label() {
        DUE.part("promise 63");
        FishGrader g = Due.load("grader reference 9999 margin 0 limit 0 pool 0" + Lines.ice(1, 350, 9999, 0, 0)
                + Lines.species("abcdefghi", 30000, 999999, 1, 1) + Lines.species("x", 1, 999, 1, 1)
                + ";item 20000 1 vote abcdefghi 9;item 1 9999 vote x 9;item 10 9999 vote x 9");
        DUE.index("no box", () -> g.label(0));
        g.advance(1);
        DUE.same("the greatest box", Due.written(g, g.label(0)), "abcdefghi 60000+30000 wait");
        g.advance(1);
        DUE.same("iced", Due.written(g, g.label(0)), "abcdefghi 60000+30000 ice2");
        DUE.same("the smallest box", Due.written(g, g.label(1)), "x 1+0 wait");
        g.advance(9);
        DUE.same("iced", Due.written(g, g.label(1)), "x 1+0 ice3");
        DUE.same("no leading zeros", Due.written(g, g.label(2)), "x 10+9 ice4");
        for (int bad : new int[] {-1, 3, MIN, MAX}) {
            DUE.index("label(" + bad + ")", () -> g.label(bad));
        }
        DUE.same("the text of before", Snapshot.writtenText(g), "x 10+9 ice4");
        FishGrader late = Due.load(plain(0, 0) + Lines.ice(100, 1, 99, 0, 0) + Lines.species("a", 10, 99, 1, 1)
                + Lines.items("a", 10));
        late.advance(100);
        DUE.same("a time of two digits", Due.written(late, late.label(0)), "a 10+0 ice10");
    }

    private static void report() {
        DUE.part("promise 64");
        FishGrader least = Due.load(plain(0, 0) + Lines.species("all", 1, 0, 1, 0));
        DUE.same("nothing", Due.written(least, least.report()), "all 0x1 0 0/0 0;all 0 0");
        FishGrader g = Due.load(plain(0, 0) + Lines.ice(100, 0, 0, 1, 0) + Lines.species("d", 10, 999999, 1, 99)
                + Lines.species("cod", 11, 30, 1, 3) + Lines.species("b", 30000, 5, 1, 1) + Lines.species("a", 7, 8, 1, 1)
                + Lines.items("d", 10) + Lines.items("cod", 15, 15, 1) + Lines.items("a", 8));
        g.advance(1);
        DUE.same("at 1", Due.written(g, g.report()),
                "d 1x10 0 10/999999 990;cod 0x11 0 0/30 0;b 0x30000 0 0/5 0;a 0x7 0 0/8 0;all 1 990");
        g.setTarget(0, 20);
        g.advance(4);
        DUE.same("at 5", Due.written(g, g.report()),
                "d 1x20 0 10/999999 495;cod 2x11 8 30/30 32;b 0x30000 0 0/5 0;a 1x7 1 8/8 7;all 4 534");
        DUE.index("no byte behind it", () -> g.labelByte(Snapshot.writtenText(g).length()));
    }

    private static void labelByte() {
        DUE.part("promise 65: no such byte, also if nothing was written");
        FishGrader none = new FishGrader();
        for (int bad : new int[] {0, -1, 1, MIN, MAX}) {
            DUE.index("labelByte(" + bad + ")", () -> none.labelByte(bad));
        }
        FishGrader g = one(0, 0, 1, 100);
        DUE.index("nothing was written", () -> g.labelByte(0));
        g.advance(1);
        DUE.index("nothing was written", () -> g.labelByte(0));
        int length = g.report();
        DUE.same("report", Snapshot.writtenText(g), "a 1x100 0 100/99999 100;all 1 100");
        DUE.same("its length", length, "a 1x100 0 100/99999 100;all 1 100".length());
        DUE.same("the first byte", g.labelByte(0), 'a');
        DUE.same("the last byte", g.labelByte(length - 1), '0');
        for (int bad : new int[] {-1, length, length + 1, MIN, MAX}) {
            DUE.index("labelByte(" + bad + ")", () -> g.labelByte(bad));
        }
        DUE.part("promises 63 and 64: replaces the text that was written before");
        int shorter = g.label(0);
        DUE.same("label", Snapshot.writtenText(g), "a 100+0 wait");
        DUE.index("no byte of the longer text", () -> g.labelByte(shorter));
        g.undo();
        DUE.same("undo leaves it", Snapshot.writtenText(g), "a 100+0 wait");
        DUE.index("a refused label", () -> g.label(0));
        DUE.same("leaves it too", Snapshot.writtenText(g), "a 100+0 wait");
    }

    private static void manyCalls() {
        DUE.part("512 calls on one object");
        String text = plain(0, 0) + Lines.species("a", 100, 999, 1, 1) + Lines.items("a", 100);
        FishGrader g = Due.load(text);
        int calls = 1 + (text.length() + 19) / 20;
        for (int i = 1; calls < 511; i++, calls++) {
            DUE.same("advance", g.advance(100), i == 1 ? 1 : 0);
        }
        DUE.same("time", g.time(), (511 - 1 - (text.length() + 19) / 20) * 100);
    }
}
