/** Promises 1 to 6 and section 1: the buffer, loading, and the errors of a text. */
public final class TextTest {
    private static final Due DUE = new Due();
    private static final String HEAD = "grader reference 100 margin 5 limit 10 pool 2";
    private static final String COD = ";species cod target 100 quota 500 boxes 2 price 3";

    public static void main(String[] args) {
        newObject();
        append();
        load();
        failedLoad();
        goodTexts();
        badTokens();
        grammar();
        bounds();
        names();
        tooMany();
        ends();
        DUE.end();
    }

    private static void newObject() {
        DUE.part("promise 1");
        FishGrader g = new FishGrader();
        DUE.same("NONE", FishGrader.NONE, -1);
        DUE.same("buffered", g.buffered(), 0);
        DUE.same("items", g.items(), 0);
        DUE.same("speciesCount", g.speciesCount(), 0);
        DUE.same("closed", g.closed(), 0);
        DUE.same("time", g.time(), 0);
        DUE.same("rule", g.rule(), 0);
        DUE.same("pooled", g.pooled(), 0);
        DUE.same("ice", g.ice(), 0);
        DUE.same("iceUsed", g.iceUsed(), 0);
        DUE.same("rejected", g.rejected(), 0);
        DUE.same("undoable", g.undoable(), 0);
        DUE.same("parseError", g.parseError(), 0);
        DUE.same("errorPosition", g.errorPosition(), -1);
        DUE.index("labelByte(0)", () -> g.labelByte(0));
        withoutGrader(g);
    }

    /** Every other exception would come second. */
    private static void withoutGrader(FishGrader g) {
        DUE.state("weight", () -> g.weight(-1));
        DUE.state("score", () -> g.score(-1, -1));
        DUE.state("speciesOf", () -> g.speciesOf(-1));
        DUE.state("stateOf", () -> g.stateOf(-1));
        DUE.state("boxOf", () -> g.boxOf(-1));
        DUE.state("agreement", () -> g.agreement(-1));
        DUE.state("content", () -> g.content(-1, -1));
        DUE.state("itemsIn", () -> g.itemsIn(-1, -1));
        DUE.state("closedSpecies", () -> g.closedSpecies(-1));
        DUE.state("closedWeight", () -> g.closedWeight(-1));
        DUE.state("giveaway", () -> g.giveaway(-1));
        DUE.state("closedAt", () -> g.closedAt(-1));
        DUE.state("icedAt", () -> g.icedAt(-1));
        DUE.state("nextIced", () -> g.nextIced(-1));
        DUE.state("worstBox", () -> g.worstBox(-1));
        DUE.state("poolItem", () -> g.poolItem(-1));
        DUE.state("isStopped", () -> g.isStopped(0));
        DUE.state("late", () -> g.late());
        DUE.state("landed", () -> g.landed(-1));
        DUE.state("discarded", () -> g.discarded(-1));
        DUE.state("quota", () -> g.quota(-1));
        DUE.state("target", () -> g.target(-1));
        DUE.state("totalGiveaway", () -> g.totalGiveaway(-1));
        DUE.state("earnings", () -> g.earnings(-1));
        DUE.state("meanGiveaway", () -> g.meanGiveaway(-1, true));
        DUE.state("closedIn", () -> g.closedIn(0));
        DUE.state("giveawayIn", () -> g.giveawayIn(0));
        DUE.state("firstClosed", () -> g.firstClosed(-1, 0));
        DUE.state("firstLate", () -> g.firstLate(0));
        DUE.state("bestRule", () -> g.bestRule(0));
        DUE.state("bestMove", () -> g.bestMove(0, 0));
        DUE.state("bestLimit", () -> g.bestLimit(0));
        DUE.state("combination", () -> g.combination(-1, 0));
        DUE.state("lookahead", () -> g.lookahead(-1, 0, 0));
        DUE.state("iceNeeded", () -> g.iceNeeded());
        DUE.state("advance", () -> g.advance(0));
        DUE.state("combine", () -> g.combine(-1, 0));
        DUE.state("release", () -> g.release(-1, 0));
        DUE.state("addItem", () -> g.addItem(-1, 0, -1, 0));
        DUE.state("setRule", () -> g.setRule(-1));
        DUE.state("setLimit", () -> g.setLimit(-1));
        DUE.state("setTarget", () -> g.setTarget(-1, 0));
        DUE.state("moveQuota", () -> g.moveQuota(-1, -1, 0));
        DUE.state("undo", () -> g.undo());
        DUE.state("save", () -> g.save());
        DUE.state("restore", () -> g.restore());
        DUE.state("label", () -> g.label(-1));
        DUE.state("report", () -> g.report());
    }

    private static void append() {
        DUE.part("promises 2 and 6");
        FishGrader g = new FishGrader();
        for (int i = 1; i <= 75; i++) {
            DUE.same("append " + i, g.append(0x20202020, 0x20202020, 0x20202020, 0x20202020, 0x20202020), 20 * i);
            DUE.same("buffered", g.buffered(), 20 * i);
        }
        DUE.same("append 76", g.append(1, 2, 3, 4, 5), -1);
        DUE.same("buffered", g.buffered(), 1500);
        DUE.argument("load of 1500 blanks", () -> g.load(1500));
        DUE.same("parseError", g.parseError(), 1);
        DUE.same("errorPosition", g.errorPosition(), 1500);
        DUE.same("append after load", g.append(-1, -1, -1, -1, -1), 20);
        DUE.argument("load of bytes 255", () -> g.load(20));
        DUE.same("errorPosition", g.errorPosition(), 0);
        // "grad" "er!." : the order of the bytes shows in where the first bad one stands.
        g.append(0x67726164, 0x65722120, 0, 0, 0);
        DUE.argument("load", () -> g.load(20));
        DUE.same("errorPosition", g.errorPosition(), 6);
    }

    private static void load() {
        DUE.part("promise 3");
        FishGrader g = new FishGrader();
        Due.append(g, HEAD + COD + ";item 5 5 vote cod 9;item 5 5");
        int length = (HEAD + COD + ";item 5 5 vote cod 9;item 5 5").length();
        DUE.index("load(-1)", () -> g.load(-1));
        DUE.index("load(buffered + 1)", () -> g.load(g.buffered() + 1));
        DUE.index("load(MAX)", () -> g.load(Integer.MAX_VALUE));
        DUE.same("buffered", g.buffered(), (length + 19) / 20 * 20);
        DUE.same("load", g.load(length), 2);
        DUE.same("buffered", g.buffered(), 0);
        DUE.same("items", g.items(), 2);
        g.setRule(2);
        g.advance(3);
        g.save();
        g.report();
        Due.append(g, HEAD + COD);
        DUE.same("load of a text without items", g.load((HEAD + COD).length()), 0);
        DUE.same("time", g.time(), 0);
        DUE.same("rule", g.rule(), 0);
        DUE.same("undoable", g.undoable(), 0);
        DUE.same("content", g.content(0, 0), 0);
        DUE.same("landed", g.landed(0), 0);
        DUE.same("rejected", g.rejected(), 0);
        DUE.state("undo", () -> g.undo());
        DUE.state("restore", () -> g.restore());
        DUE.same("the written text stays", g.labelByte(0), 'c');
        Due.append(g, HEAD + COD + "!");
        DUE.same("only the first n bytes count", g.load((HEAD + COD).length()), 0);
    }

    private static void failedLoad() {
        DUE.part("promises 3 to 5");
        FishGrader g = Due.load(HEAD + COD + ";item 5 10 vote cod 9;item 7 7 vote cod 9");
        g.advance(1);
        g.setRule(1);
        g.save();
        Due.append(g, "grader reference 0  ");
        DUE.index("load(21)", () -> g.load(21));
        DUE.same("parseError stays", g.parseError(), 0);
        DUE.same("errorPosition stays", g.errorPosition(), -1);
        DUE.argument("load(18)", () -> g.load(18));
        DUE.same("parseError", g.parseError(), 2);
        DUE.same("errorPosition", g.errorPosition(), 17);
        DUE.same("buffered", g.buffered(), 0);
        DUE.index("load(1)", () -> g.load(1));
        DUE.same("parseError stays", g.parseError(), 2);
        DUE.same("errorPosition stays", g.errorPosition(), 17);
        Due.append(g, HEAD + ";species ling target 7 quota 8 boxes 3 price 9;item 1 1;");
        DUE.argument("load", () -> g.load(g.buffered()));
        DUE.same("parseError", g.parseError(), 1);
        DUE.same("items", g.items(), 2);
        DUE.same("time", g.time(), 1);
        DUE.same("rule", g.rule(), 1);
        DUE.same("undoable", g.undoable(), 2);
        DUE.same("target", g.target(0), 100);
        DUE.same("content", g.content(0, 0), 50);
        DUE.index("content(0, 2)", () -> g.content(0, 2));
        DUE.same("restore", g.restore(), 1);
        DUE.same("report", Due.written(g, g.report()), "cod 0x100 0 50/500 0;all 0 0");
    }

    private static void good(String text) {
        DUE.same(text, Due.error(text), "0@-1");
    }

    private static void bad(String text, int code, int at) {
        DUE.same(text, Due.error(text), code + "@" + at);
    }

    /** The error is at the last token of the text. */
    private static void badEnd(String text, int code) {
        int at = Math.max(text.lastIndexOf(' '), text.lastIndexOf(';')) + 1;
        bad(text, code, at);
    }

    private static void goodTexts() {
        DUE.part("section 1, good texts");
        good(HEAD + COD);
        good("  grader  reference100margin5limit10pool2 ; species cod target100quota500boxes2price3  ");
        good("grader reference 9999 margin 99 limit 9999 pool 10;ice 200 9999 99999 99 50;stop 1 999;stop 999 999"
                + ";species abcdefghi target 30000 quota 999999 boxes 3 price 99"
                + ";item 20000 9999 and 20000 9999 and 20000 9999 vote abcdefghi 99");
        good("grader reference 1 margin 0 limit 0 pool 0;ice 0 0 0 0 0;stop 1 1;species a target 1 quota 0 boxes 1 price 0"
                + ";item 0 1 vote a 1");
        good("grader reference 000100 margin 000000 limit 0 pool 0" + COD);
        good(HEAD + ";item 5 5" + COD + ";item 5 5 vote cod 1");
        good(HEAD + COD + ";species coda target 1 quota 1 boxes 1 price 1;species co target 1 quota 1 boxes 1 price 1");
        good(HEAD + ";species az target 1 quota 1 boxes 1 price 1;species zza target 1 quota 1 boxes 1 price 1");
        good(HEAD + ";species graders target 1 quota 1 boxes 1 price 1;species vot target 1 quota 1 boxes 1 price 1");
    }

    private static void badTokens() {
        DUE.part("section 1, error 1 of tokens");
        bad("!", 1, 0);
        bad("  Grader", 1, 2);
        bad("graderreference", 1, 0);
        bad("grader reference -1", 1, 17);
        bad("grader reference 1000000", 1, 17);
        bad("grader reference 0000001", 1, 17);
        bad("grader reference 99999999999999999999", 1, 17);
        bad("grader reference 1,", 1, 18);
        bad(HEAD + ";species abcdefghij", 1, HEAD.length() + 9);
        bad(HEAD + ";species cod_", 1, HEAD.length() + 12);
        bad(HEAD + "\t" + COD, 1, HEAD.length());
        bad(HEAD + COD + "\u00e9", 1, (HEAD + COD).length());
        bad(HEAD + COD + "\0", 1, (HEAD + COD).length());
        bad(HEAD + COD + ";item 5 5 vote abcdefghij 1", 1, (HEAD + COD).length() + 15);
    }

    private static void grammar() {
        DUE.part("section 1, error 1 of the grammar");
        for (String text : new String[] {"reference", "grader margin", "grader 5", "grader reference reference",
            "grader reference ;", "grader reference 1 limit", "grader reference 1 margin margin",
            "grader reference 1 margin 1 pool", "grader reference 1 margin 1 limit 1 margin",
            "grader reference 1 margin 1 limit 1 pool pool", HEAD + " 5", HEAD + " ice", HEAD + ";;", HEAD + ";grader",
            HEAD + ";cod", HEAD + ";5", HEAD + ";and", HEAD + ";ice ice", HEAD + ";ice 1 1 1 1 ;",
            HEAD + ";ice 1 1 1 1 1 1", HEAD + ";stop ;", HEAD + ";stop 1 cod", HEAD + ";stop 1 1 1",
            HEAD + ";species 5", HEAD + ";species ;", HEAD + ";species cod quota", HEAD + ";species cod target cod",
            HEAD + ";species cod target 5 boxes", HEAD + ";species cod target 5 quota 5 price",
            HEAD + ";species cod target 5 quota 5 boxes 1 quota", HEAD + COD + " 5", HEAD + COD + " vote",
            HEAD + COD + ";item vote", HEAD + COD + ";item 5 vote", HEAD + COD + ";item 5 5 5",
            HEAD + COD + ";item 5 5 cod", HEAD + COD + ";item 5 5 item", HEAD + COD + ";item 5 5 and and",
            HEAD + COD + ";item 5 5 and 5 and", HEAD + COD + ";item 5 5 and 5 5 5", HEAD + COD + ";item 5 5 vote 5",
            HEAD + COD + ";item 5 5 vote ;", HEAD + COD + ";item 5 5 vote cod vote",
            HEAD + COD + ";item 5 5 vote cod 5 and", HEAD + COD + ";item 5 5 vote cod 5 cod",
            HEAD + COD + ";item 5 5 vote cod 5 5"}) {
            int tokenStart = text.endsWith(";;") ? text.length() - 1
                    : text.endsWith(";") ? text.length() - 1
                    : Math.max(text.lastIndexOf(' '), text.lastIndexOf(';')) + 1;
            bad(text, 1, tokenStart);
        }
        for (String word : new String[] {"grader", "reference", "margin", "limit", "pool", "ice", "stop", "species",
            "target", "quota", "boxes", "price", "item", "and", "vote"}) {
            badEnd(HEAD + ";species " + word, 1);
            badEnd(HEAD + COD + ";item 5 5 vote " + word, 1);
        }
    }

    private static void bounds() {
        DUE.part("section 1, error 2");
        badEnd("grader reference 0", 2);
        badEnd("grader reference 10000", 2);
        badEnd("grader reference 1 margin 100", 2);
        badEnd("grader reference 1 margin 1 limit 10000", 2);
        badEnd("grader reference 1 margin 1 limit 1 pool 11", 2);
        badEnd(HEAD + ";ice 201", 2);
        badEnd(HEAD + ";ice 1 10000", 2);
        badEnd(HEAD + ";ice 1 1 100000", 2);
        badEnd(HEAD + ";ice 1 1 1 100", 2);
        badEnd(HEAD + ";ice 1 1 1 1 51", 2);
        badEnd(HEAD + ";stop 0", 2);
        badEnd(HEAD + ";stop 1000", 2);
        badEnd(HEAD + ";stop 5 4", 2);
        badEnd(HEAD + ";stop 5 1000", 2);
        badEnd(HEAD + ";species cod target 0", 2);
        badEnd(HEAD + ";species cod target 30001", 2);
        good(HEAD + ";species cod target 5 quota 999999 boxes 1 price 1");
        badEnd(HEAD + ";species cod target 5 quota 5 boxes 0", 2);
        badEnd(HEAD + ";species cod target 5 quota 5 boxes 4", 2);
        badEnd(HEAD + ";species cod target 5 quota 5 boxes 1 price 100", 2);
        badEnd(HEAD + COD + ";item 20001", 2);
        badEnd(HEAD + COD + ";item 1 0", 2);
        badEnd(HEAD + COD + ";item 1 10000", 2);
        badEnd(HEAD + COD + ";item 1 1 and 20001", 2);
        badEnd(HEAD + COD + ";item 1 1 and 1 0", 2);
        badEnd(HEAD + COD + ";item 1 1 vote cod 0", 2);
        badEnd(HEAD + COD + ";item 1 1 vote cod 100", 2);
    }

    private static void names() {
        DUE.part("section 1, errors 3 and 4");
        badEnd(HEAD + COD + ";item 5 5 vote ling", 3);
        badEnd(HEAD + COD + ";item 5 5 vote co", 3);
        badEnd(HEAD + COD + ";item 5 5 vote codd", 3);
        badEnd(HEAD + ";item 5 5 vote cod", 3);
        bad(HEAD + ";item 5 5 vote cod 5" + COD, 3, HEAD.length() + 15);
        badEnd(HEAD + COD + ";species cod", 4);
        badEnd(HEAD + ";ice 1 1 1 1 1;ice", 4);
        badEnd(HEAD + ";ice 1 1 1 1 1" + COD + "; ice", 4);
    }

    private static void tooMany() {
        DUE.part("section 1, error 5");
        String stops = ";stop 1 1".repeat(4);
        good(HEAD + COD + stops);
        badEnd(HEAD + COD + stops + ";stop", 5);
        String species = ";species a target 1 quota 1 boxes 1 price 1;species b target 1 quota 1 boxes 1 price 1"
                + ";species c target 1 quota 1 boxes 1 price 1";
        good(HEAD + COD + species);
        badEnd(HEAD + COD + species + ";species", 5);
        String items = ";item 5 5".repeat(60);
        good(HEAD + COD + items);
        badEnd(HEAD + COD + items + ";item", 5);
        good(HEAD + COD + ";item 5 5 and 5 5 and 5 5");
        badEnd(HEAD + COD + ";item 5 5 and 5 5 and 5 5 and", 5);
        good(HEAD + COD + ";item 5 5" + " vote cod 1".repeat(5));
        badEnd(HEAD + COD + ";item 5 5" + " vote cod 1".repeat(5) + " vote", 5);
        badEnd(HEAD + COD + ";item 5 5 and 5 5 and 5 5 vote cod 1 and", 1);
    }

    private static void ends() {
        DUE.part("section 1, the end of the text");
        bad("", 1, 0);
        bad("   ", 1, 3);
        for (String text : new String[] {"grader", "grader reference", "grader reference 1", "grader reference 1 margin",
            HEAD.substring(0, HEAD.length() - 1), HEAD + ";", HEAD + COD + "; ", HEAD + COD + ";ice", HEAD + COD + ";ice 1 1 1 1 ",
            HEAD + COD + ";stop 1", HEAD + ";species", HEAD + ";species cod", HEAD + ";species cod target 1 quota 1 boxes 1 price",
            HEAD + COD + ";item", HEAD + COD + ";item 5", HEAD + COD + ";item 5 5 and", HEAD + COD + ";item 5 5 vote",
            HEAD + COD + ";item 5 5 vote cod "}) {
            bad(text, 1, text.length());
        }
        for (String text : new String[] {HEAD, HEAD + "  ", HEAD + ";item 5 5", HEAD + ";ice 1 1 1 1 1;stop 1 1 "}) {
            bad(text, 6, text.length());
        }
    }
}
