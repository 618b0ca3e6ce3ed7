/** All that can be asked of a grader without a change, as one text: two equal ones mean that nothing has changed. */
public final class Snapshot {
    private final FishGrader grader;
    private final StringBuilder text = new StringBuilder();

    private Snapshot(FishGrader grader) {
        this.grader = grader;
    }

    public static String of(FishGrader grader) {
        Snapshot shot = new Snapshot(grader);
        shot.add("buffered", grader.buffered());
        shot.add("parseError", grader.parseError());
        shot.add("errorPosition", grader.errorPosition());
        shot.add("undoable", grader.undoable());
        shot.text.append("written ").append(writtenText(grader)).append('\n');
        shot.text.append(ofState(grader));
        return shot.text.toString();
    }

    /** Without the buffer, the parse error, the number of changes and the written text, which undo does not alter. */
    public static String ofState(FishGrader grader) {
        Snapshot shot = new Snapshot(grader);
        shot.addWhole();
        for (int item = 0; item < grader.items(); item++) {
            shot.addItem(item);
        }
        for (int species = 0; species < grader.speciesCount(); species++) {
            shot.addSpecies(species);
        }
        for (int box = 0; box < grader.closed(); box++) {
            shot.addBox(box);
        }
        return shot.text.toString();
    }

    private void add(String name, int... values) {
        text.append(name);
        for (int value : values) {
            text.append(' ').append(value);
        }
        text.append('\n');
    }

    private void addWhole() {
        FishGrader g = grader;
        add("whole", g.items(), g.speciesCount(), g.closed(), g.time(), g.rule(), g.pooled(), g.ice(), g.iceUsed(),
                g.rejected());
        if (g.speciesCount() == 0) {
            return;
        }
        add("late, iceNeeded", g.late(), g.iceNeeded());
        add("ahead", g.closedIn(100), g.giveawayIn(100), g.firstLate(100), g.bestRule(100), g.bestMove(10, 100),
                g.bestLimit(60));
        for (int index = 0; index < g.pooled(); index++) {
            add("pool", g.poolItem(index));
        }
        for (int tick = 1; tick < 10; tick++) {
            add("stop", g.isStopped(tick) ? 1 : 0);
        }
    }

    private void addItem(int item) {
        FishGrader g = grader;
        add("item", g.weight(item), g.speciesOf(item), g.stateOf(item), g.boxOf(item), g.agreement(item));
        for (int species = 0; species < g.speciesCount(); species++) {
            add("score", g.score(item, species));
        }
    }

    private void addSpecies(int species) {
        FishGrader g = grader;
        add("species", g.landed(species), g.discarded(species), g.quota(species), g.target(species),
                g.totalGiveaway(species), g.earnings(species), g.meanGiveaway(species, false),
                g.meanGiveaway(species, true), g.firstClosed(species, 100));
        for (int place = 0; place < 3; place++) {
            try {
                add("place", g.content(species, place), g.itemsIn(species, place), g.combination(species, place),
                        g.lookahead(species, place, 12));
            } catch (IndexOutOfBoundsException e) {
                add("no place");
            }
        }
    }

    private void addBox(int box) {
        FishGrader g = grader;
        add("box", g.closedSpecies(box), g.closedWeight(box), g.giveaway(box), g.closedAt(box), g.icedAt(box),
                g.worstBox(box));
    }

    /** The text is as long as labelByte answers. */
    public static String writtenText(FishGrader grader) {
        StringBuilder written = new StringBuilder();
        try {
            while (written.length() < 1000) {
                written.append((char) grader.labelByte(written.length()));
            }
        } catch (IndexOutOfBoundsException e) {
            return written.toString();
        }
        return "too long";
    }
}
