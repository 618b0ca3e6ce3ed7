/** The boundary cases of section 1 and of promises 1 to 6, in the order of the document's sentences. */
public final class BoundaryTextTest {
    private static final Due DUE = new Due();
    private static final String HEAD = "grader reference 100 margin 5 limit 10 pool 2";
    private static final String COD = ";species cod target 100 quota 500 boxes 2 price 3";
    private static final String GOOD = HEAD + COD;
    private static final String[] RESERVED = {"grader", "reference", "margin", "limit", "pool", "ice", "stop", "species",
        "target", "quota", "boxes", "price", "item", "and", "vote"};

    public static void main(String[] args) {
        bufferOf1500();
        wordsAndNumbers();
        blanks();
        runsEnd();
        everyByte();
        everyName();
        everyBound();
        untilFrom();
        oneIceLine();
        fourStops();
        fourSpecies();
        sixtyItems();
        threeSamples();
        fiveVotes();
        firstErrorFromTheLeft();
        smallestCode();
        positions();
        endOfTheText();
        namesOfSpecies();
        noSpecies();
        newObject();
        append();
        appendIsRefused();
        loadOfNoBytes();
        loadOutOfRange();
        loadOfAPart();
        loadSucceeds();
        loadLeavesNothing();
        loadFails();
        loadFailsWithoutGrader();
        errorsOfTheLatestLoad();
        DUE.end();
    }

    private static void good(String text) {
        DUE.same(text, Due.error(text), "0@-1");
    }

    private static void bad(String text, int code, int at) {
        DUE.same(text, Due.error(text), code + "@" + at);
    }

    /** The error is expected where the mark stands, which is no part of the text. */
    private static void badAtMark(String marked, int code) {
        bad(marked.replace("@", ""), code, marked.indexOf('@'));
    }

    // ---- section 1

    private static String filled(String start, String end, int length) {
        return start + " ".repeat(length - start.length() - end.length()) + end;
    }

    private static void bufferOf1500() {
        DUE.part("section 1: the input buffer holds at most 1500 bytes");
        good(filled(HEAD, COD, 1500));
        bad(filled(HEAD, COD + "!", 1500), 1, 1499);
        bad(filled(GOOD, ";", 1500), 1, 1500);
        DUE.same("items of a full buffer", Due.load(filled(GOOD, ";item 1 1", 1500)).items(), 1);
    }

    private static void wordsAndNumbers() {
        DUE.part("section 1: words of 1 to 9 letters, numbers of 1 to 6 digits");
        good(HEAD + ";species a target 1 quota 1 boxes 1 price 1");
        good(HEAD + ";species abcdefghi target 1 quota 1 boxes 1 price 1");
        badAtMark(HEAD + ";species @abcdefghij target 1 quota 1 boxes 1 price 1", 1);
        badAtMark(HEAD + ";species @" + "z".repeat(1000), 1);
        good(HEAD + ";species a target 000001 quota 000000 boxes 000003 price 000099");
        badAtMark(HEAD + ";species a target @0000001 quota 1 boxes 1 price 1", 1);
        badAtMark(HEAD + ";species a target 1 quota @" + "9".repeat(1000), 1);
        badAtMark("grader reference @" + "0".repeat(1000), 1);
        // 2^32 + 5 would be 5 if the value overflowed.
        badAtMark("grader reference @4294967301 margin 5 limit 10 pool 2" + COD, 1);
    }

    private static void blanks() {
        DUE.part("section 1: blanks only separate tokens");
        good("   grader   reference   100   margin   5   limit   10   pool   2   ;   species   cod   target   100   quota"
                + "   500   boxes   2   price   3   ;   item   5   5   ");
        badAtMark("@gra der reference 100", 1);
        badAtMark("grader reference 10 @0 margin", 1);
        badAtMark(HEAD + ";species co @d target", 1);
        badAtMark(HEAD + "; @; " + COD, 1);
        good(HEAD + " ; species cod target 100 quota 500 boxes 2 price 3");
    }

    private static void runsEnd() {
        DUE.part("section 1: a run of letters, or of digits, ends at the first other byte");
        good("grader reference100margin5limit10pool2;species cod target100quota500boxes2price3;item5 5vote cod5vote cod6");
        FishGrader g = Due.load(GOOD + ";item7 14and7 14vote cod5vote cod6");
        DUE.same("weight", g.weight(0), 50);
        DUE.same("score", g.score(0, 0), 11);
        badAtMark("@graderreference 100", 1);
        badAtMark(GOOD + ";item 55@", 1);
        badAtMark(HEAD + ";species cod@4 target 5", 1);
        badAtMark(GOOD + ";item 5@x 5", 1);
        badAtMark("grader reference 100@. margin", 1);
        badAtMark("grader@. reference", 1);
        badAtMark("grader@R reference", 1);
    }

    private static void everyByte() {
        DUE.part("section 1, error 1: a byte that starts no token");
        for (int value = 0; value < 256; value++) {
            String sign = String.valueOf((char) value);
            String text = GOOD + " " + sign;
            if (value == ' ') {
                good(text);
            } else if (value == ';') {
                bad(text, 1, text.length());
            } else {
                // A word, a number, or no token at all: none of them may stand behind a line.
                bad(text, 1, text.length() - 1);
            }
            boolean letter = value >= 'a' && value <= 'z';
            boolean digit = value >= '0' && value <= '9';
            String name = HEAD + ";species x" + sign + " target 1 quota 1 boxes 1 price 1";
            if (letter || value == ' ') {
                good(name);
            } else {
                bad(name, 1, HEAD.length() + 10);
            }
            String price = HEAD + ";species x target 1 quota 1 boxes 1 price 1" + sign;
            if (digit || value == ' ') {
                good(price);
            } else {
                bad(price, 1, value == ';' ? price.length() : price.length() - 1);
            }
        }
    }

    private static void everyName() {
        DUE.part("section 1: a NAME is any word except ..");
        for (String word : RESERVED) {
            String rest = " target 1 quota 1 boxes 1 price 1";
            badAtMark(HEAD + ";species @" + word + rest, 1);
            badAtMark(GOOD + ";item 5 5 vote @" + word + " 5", 1);
            String shorter = word.substring(0, word.length() - 1);
            good(HEAD + ";species " + shorter + rest + ";item 5 5 vote " + shorter + " 5");
            String longer = word + "s";
            if (longer.length() <= 9) {
                good(HEAD + ";species " + longer + rest + ";item 5 5 vote " + longer + " 5");
            }
        }
        for (String word : new String[] {"all", "wait", "text", "line", "name", "percent", "make", "store", "due", "melt",
            "from", "until", "reading", "ref", "a", "z"}) {
            good(HEAD + ";species " + word + " target 1 quota 1 boxes 1 price 1;item 5 5 vote " + word + " 5");
        }
    }

    /** The number stands at the sign # of a text that is good otherwise. */
    private static void bounds(String what, String text, int low, int high) {
        DUE.part("section 1, error 2: " + what + " is " + low + " to " + high);
        int at = text.indexOf('#');
        good(text.replace("#", "" + low));
        good(text.replace("#", "" + high));
        if (low > 0) {
            bad(text.replace("#", "" + (low - 1)), 2, at);
            bad(text.replace("#", "000000"), 2, at);
        }
        bad(text.replace("#", "" + (high + 1)), high + 1 > 999999 ? 1 : 2, at);
        if (high < 999999) {
            bad(text.replace("#", "999999"), 2, at);
        }
    }

    private static void everyBound() {
        bounds("REFERENCE", "grader reference # margin 5 limit 10 pool 2" + COD, 1, 9999);
        bounds("MARGIN", "grader reference 100 margin # limit 10 pool 2" + COD, 0, 99);
        bounds("LIMIT", "grader reference 100 margin 5 limit # pool 2" + COD, 0, 9999);
        bounds("POOL", "grader reference 100 margin 5 limit 10 pool #" + COD, 0, 10);
        bounds("PERCENT", GOOD + ";ice # 1 1 1 1", 0, 200);
        bounds("MAKE", GOOD + ";ice 1 # 1 1 1", 0, 9999);
        bounds("STORE", GOOD + ";ice 1 1 # 1 1", 0, 99999);
        bounds("DUE", GOOD + ";ice 1 1 1 # 1", 0, 99);
        bounds("MELT", GOOD + ";ice 1 1 1 1 #", 0, 50);
        bounds("TARGET", HEAD + ";species cod target # quota 500 boxes 2 price 3", 1, 30000);
        bounds("QUOTA", HEAD + ";species cod target 100 quota # boxes 2 price 3", 0, 999999);
        bounds("BOXES", HEAD + ";species cod target 100 quota 500 boxes # price 3", 1, 3);
        bounds("PRICE", HEAD + ";species cod target 100 quota 500 boxes 2 price #", 0, 99);
        bounds("FROM", GOOD + ";stop # 999", 1, 999);
        bounds("READING", GOOD + ";item # 5", 0, 20000);
        bounds("READING", GOOD + ";item 5 5 and # 5", 0, 20000);
        bounds("READING", GOOD + ";item 5 5 and 5 5 and # 5 vote cod 5", 0, 20000);
        bounds("REF", GOOD + ";item 5 #", 1, 9999);
        bounds("REF", GOOD + ";item 5 5 and 5 #", 1, 9999);
        bounds("REF", GOOD + ";item 5 5 and 5 5 and 5 # vote cod 5", 1, 9999);
        bounds("CONFIDENCE", GOOD + ";item 5 5 vote cod #", 1, 99);
        bounds("CONFIDENCE", GOOD + ";item 5 5 vote cod 5 vote cod #", 1, 99);
        bounds("CONFIDENCE", GOOD + ";item 5 5" + " vote cod 5".repeat(4) + " vote cod #", 1, 99);
    }

    private static void untilFrom() {
        for (int from : new int[] {1, 2, 500, 998, 999}) {
            bounds("UNTIL", GOOD + ";stop " + from + " #", from, 999);
        }
        // The FROM of an earlier stop line does not count.
        bounds("UNTIL", GOOD + ";stop 700 800;stop 3 #;stop 1 2", 3, 999);
    }

    private static void oneIceLine() {
        DUE.part("section 1: at most one ice line; error 4 at the word ice");
        good(GOOD + ";ice 1 1 1 1 1");
        badAtMark(GOOD + ";ice 1 1 1 1 1;@ice 1 1 1 1 1", 4);
        badAtMark(GOOD + ";ice 1 1 1 1 1;item 5 5; @ice", 4);
        badAtMark(HEAD + ";ice 0 0 0 0 0;@ice 999 x", 4);
        DUE.part("section 1: without an ice line PERCENT, MAKE, STORE, DUE and MELT are 0");
        FishGrader g = new FishGrader();
        for (String ice : new String[] {";ice 200 9999 99999 99 50", ";ice 200 9999 99999 99 50", ""}) {
            Due.append(g, GOOD + ice + ";item 15 5 vote cod 9");
            g.load((GOOD + ice).length() + 21);
        }
        g.setLimit(9999);
        g.advance(1);
        DUE.same("closed", g.closedWeight(0), 300);
        DUE.same("no ice is made", g.ice(), 0);
        DUE.same("no ice is needed", g.iceNeeded(), 0);
        g.advance(1);
        DUE.same("iced without ice", g.icedAt(0), 2);
        DUE.same("iceUsed", g.iceUsed(), 0);
        DUE.same("it was due at once", g.late(), 1);
    }

    private static void fourStops() {
        DUE.part("section 1: at most 4 stop lines; error 5 at the word stop");
        String four = GOOD + ";stop 2 2;stop 4 4;stop 6 6;stop 8 8";
        FishGrader g = Due.load(four);
        for (int tick = 1; tick <= 9; tick++) {
            DUE.same("isStopped(" + tick + ")", g.isStopped(tick) ? 1 : 0, tick % 2 == 0 ? 1 : 0);
        }
        badAtMark(four + ";@stop 9 9", 5);
        badAtMark(four + ";item 5 5; @stop", 5);
        badAtMark(HEAD + ";stop 1 1;stop 1 1;stop 1 1;stop 1 1;@stop 1 1" + COD, 5);
    }

    private static final String FOUR = HEAD + ";species a target 1 quota 11 boxes 1 price 1"
            + ";species b target 2 quota 12 boxes 2 price 1;species c target 3 quota 13 boxes 3 price 1"
            + ";species d target 4 quota 14 boxes 1 price 1";

    private static void fourSpecies() {
        DUE.part("section 1: at most 4 species, numbered from 0 in the order of their lines");
        FishGrader g = Due.load(FOUR + ";item 5 5 vote d 9 vote b 7");
        DUE.same("speciesCount", g.speciesCount(), 4);
        for (int i = 0; i < 4; i++) {
            DUE.same("target(" + i + ")", g.target(i), i + 1);
            DUE.same("quota(" + i + ")", g.quota(i), i + 11);
        }
        DUE.same("score for b", g.score(0, 1), 7);
        DUE.same("score for d", g.score(0, 3), 9);
        DUE.same("report", Due.written(g, g.report()), "a 0x1 0 0/11 0;b 0x2 0 0/12 0;c 0x3 0 0/13 0;d 0x4 0 0/14 0;all 0 0");
        DUE.part("section 1: error 5 at the word species of a fifth one");
        badAtMark(FOUR + ";@species e target 1 quota 1 boxes 1 price 1", 5);
        badAtMark(FOUR + ";@species", 5);
        badAtMark(FOUR + ";@species a", 5);
    }

    private static void sixtyItems() {
        DUE.part("section 1: at most 60 items, numbered from 0 in the order of their lines");
        StringBuilder text = new StringBuilder(GOOD);
        for (int i = 0; i < 60; i++) {
            text.append(";item ").append(i).append(" 100");
        }
        FishGrader g = Due.load(text.toString());
        DUE.same("items", g.items(), 60);
        for (int i = 0; i < 60; i++) {
            DUE.same("weight(" + i + ")", g.weight(i), i);
        }
        DUE.part("section 1: error 5 at the word item of the 61st one");
        badAtMark(text + ";@item 5 5", 5);
        badAtMark(text + "; @item", 5);
        good(text + ";stop 1 1");
    }

    private static void threeSamples() {
        DUE.part("section 1: at most 3 samples; error 5 at the word and");
        FishGrader g = Due.load(GOOD + ";item 10 100 and 20 100 and 60 100 vote cod 9;item 5 10");
        DUE.same("three samples", g.weight(0), 30);
        DUE.same("each item has its own samples", g.weight(1), 50);
        badAtMark(GOOD + ";item 5 5 and 5 5 and 5 5 @and 5 5", 5);
        badAtMark(GOOD + ";item 5 5 and 5 5 and 5 5@and", 5);
        good(GOOD + ";item 5 5 and 5 5 and 5 5;item 5 5 and 5 5 and 5 5");
    }

    private static void fiveVotes() {
        DUE.part("section 1: at most 5 votes; error 5 at the word vote");
        FishGrader g = Due.load(GOOD + ";item 5 5 vote cod 1 vote cod 2 vote cod 4 vote cod 8 vote cod 16;item 5 5 vote cod 9");
        DUE.same("five votes", g.score(0, 0), 31);
        DUE.same("each item has its own votes", g.score(1, 0), 9);
        badAtMark(GOOD + ";item 5 5" + " vote cod 1".repeat(5) + " @vote cod 1", 5);
        badAtMark(GOOD + ";item 5 5" + " vote cod 1".repeat(5) + "@vote", 5);
        good(GOOD + (";item 5 5" + " vote cod 1".repeat(5)).repeat(2));
        DUE.same("no vote", Due.load(GOOD + ";item 5 5").score(0, 0), 0);
    }

    private static void firstErrorFromTheLeft() {
        DUE.part("section 1: parsing stops at the first token, from the left, at which an error is found");
        badAtMark("grader reference @0 margin 100 !", 2);
        badAtMark("grader @5 margin 100", 1);
        badAtMark(HEAD + ";stop @0 1;item 5 5 vote cod 5", 2);
        badAtMark(GOOD + ";item 5 5 vote @ling 100;ice", 3);
        badAtMark(GOOD + ";species @cod target 0", 4);
        badAtMark(GOOD + ";stop 1 1".repeat(4) + ";@stop 0 0 !", 5);
        badAtMark(GOOD + ";item @!;species cod", 1);
    }

    private static void smallestCode() {
        DUE.part("section 1: if several errors apply to a token, the smallest code is reported");
        badAtMark("grader reference @1000000", 1);
        badAtMark(GOOD + ";item @0020001", 1);
        badAtMark(GOOD + ";item 5 5 vote @abcdefghij 5", 1);
        badAtMark(GOOD + ";item 5 5 vote @stop 5", 1);
        badAtMark(GOOD + ";item 5 5 and 5 5 and 5 5 vote cod 1 @and 5 5", 1);
        badAtMark(GOOD + ";item 5 5 and 5 5 and 5 5" + " vote cod 1".repeat(5) + " @and", 1);
        badAtMark(HEAD + ";@", 1);
        badAtMark(HEAD + ";item 5@", 1);
    }

    private static void positions() {
        DUE.part("section 1: the position is the index of the token's first byte");
        badAtMark("   @!", 1);
        badAtMark("@x", 1);
        badAtMark("grader     @reverence 5", 1);
        badAtMark("grader reference     @010000 margin", 2);
        badAtMark(GOOD + ";item 5 5 vote     @ling", 3);
        badAtMark(GOOD + "   ;   species    @cod", 4);
        badAtMark(GOOD + ";stop 1 1".repeat(4) + "   ;   @stop   1 1", 5);
    }

    private static void endOfTheText() {
        DUE.part("section 1: at the end of the text the position is the number of bytes");
        String whole = "grader reference 100 margin 5 limit 10 pool 2;ice 1 2 3 4 5;stop 6 7;species cod target 8 quota 9 boxes 3"
                + " price 2;item 5 6 and 7 8 vote cod 9";
        // Cut behind each token: only behind a line, a sample or a vote of an item the text is complete.
        String[] tokens = whole.replace(";", " ; ").split(" +");
        StringBuilder text = new StringBuilder();
        boolean speciesSeen = false;
        for (int i = 0; i < tokens.length; i++) {
            text.append(tokens[i]).append(' ');
            boolean lineEnd = i + 1 == tokens.length || tokens[i + 1].equals(";") || tokens[i + 1].equals("and")
                    || tokens[i + 1].equals("vote");
            speciesSeen |= lineEnd && tokens[i].equals("2") && tokens[i - 1].equals("price");
            if (lineEnd && speciesSeen) {
                good(text.toString());
            } else {
                bad(text.toString(), lineEnd ? 6 : 1, text.length());
                bad(text + "    ", lineEnd ? 6 : 1, text.length() + 4);
            }
        }
        FishGrader g = new FishGrader();
        Due.append(g, HEAD + COD);
        DUE.argument("load(30)", () -> g.load(30));
        DUE.same("the number of bytes to parse, not of those in the buffer", g.errorPosition(), 30);
    }

    private static void namesOfSpecies() {
        DUE.part("section 1, error 3: a NAME that no earlier species has");
        badAtMark(GOOD + ";item 5 5 vote @co 5", 3);
        badAtMark(GOOD + ";item 5 5 vote @coda 5", 3);
        badAtMark(GOOD + ";item 5 5 vote @dod 5", 3);
        badAtMark(HEAD + ";item 5 5 vote @cod 5" + COD, 3);
        badAtMark(GOOD + ";item 5 5 vote cod 5 vote @x 5", 3);
        good(GOOD + ";item 5 5;species x target 1 quota 1 boxes 1 price 1;item 5 5 vote cod 5 vote x 5");
        DUE.part("section 1, error 4: a NAME that an earlier species has");
        for (int i = 0; i < 3; i++) {
            String three = FOUR.substring(0, FOUR.indexOf(";species d"));
            badAtMark(three + ";species @" + "abc".charAt(i) + " target 4 quota 14 boxes 1 price 1", 4);
        }
        good(GOOD + ";species co target 1 quota 1 boxes 1 price 1;species coda target 1 quota 1 boxes 1 price 1");
        DUE.part("section 1: names of a grader before do not count");
        FishGrader g = Due.load(GOOD);
        String other = HEAD + ";species x target 1 quota 1 boxes 1 price 1;item 5 5 vote cod 5";
        for (int i = 0; i < 2; i++) {
            Due.append(g, other);
            DUE.argument("load", () -> g.load(other.length()));
            DUE.same("parseError", g.parseError(), 3);
        }
        Due.append(g, GOOD);
        DUE.same("cod again", g.load(GOOD.length()), 0);
    }

    private static void noSpecies() {
        DUE.part("section 1, error 6: at the end of the text, no species");
        badAtMark(HEAD + "@", 6);
        badAtMark(HEAD + "   @", 6);
        badAtMark(HEAD + ";item 5 5@", 6);
        badAtMark(HEAD + ";ice 1 1 1 1 1;stop 1 1;item 5 5 and 5 5@", 6);
        good(HEAD + ";item 5 5" + COD);
    }

    // ---- promises 1 to 6

    private static void newObject() {
        DUE.part("promise 1");
        FishGrader g = new FishGrader();
        DUE.same("buffered", g.buffered(), 0);
        DUE.same("items", g.items(), 0);
        DUE.state("late", () -> g.late());
        DUE.index("load(1)", () -> g.load(1));
        DUE.same("two objects share nothing", Due.load(GOOD + ";item 5 5").items() + g.items(), 1);
    }

    private static void append() {
        DUE.part("promise 2: twenty bytes in order, the most significant byte first");
        for (int at = 0; at < 20; at++) {
            FishGrader g = new FishGrader();
            Due.append(g, " ".repeat(at) + "!" + " ".repeat(19 - at));
            DUE.argument("load(20)", () -> g.load(20));
            DUE.same("errorPosition", g.errorPosition(), at);
        }
        FishGrader g = new FishGrader();
        DUE.same("append", g.append(0x67726164, 0x65722072, 0x65666572, 0x656e6365, 0x20313030), 20);
        DUE.same("append", g.append(0x206d6172, 0x67696e20, 0x30206c69, 0x6d697420, 0x3020706f), 40);
        DUE.same("append", g.append(0x6f6c2030, 0x20202020, 0xffffffff, 0x80000000, 0x7fffffff), 60);
        DUE.argument("load(48)", () -> g.load(48));
        DUE.same("parseError", g.parseError(), 6);
        DUE.same("buffered", g.buffered(), 0);
    }

    private static void appendIsRefused() {
        DUE.part("promise 2: NONE if there would be more than 1500, and nothing is appended");
        FishGrader g = new FishGrader();
        Due.append(g, filled(HEAD, COD, 1480));
        DUE.same("buffered", g.buffered(), 1480);
        DUE.same("append to 1500", g.append(0x20202020, 0x20202020, 0x20202020, 0x20202020, 0x20202020), 1500);
        for (int i = 0; i < 3; i++) {
            DUE.same("append", g.append(-1, -1, -1, -1, -1), FishGrader.NONE);
            DUE.same("buffered", g.buffered(), 1500);
        }
        DUE.same("the text is as it was", g.load(1500), 0);
        DUE.same("append to the empty buffer", g.append(0, 0, 0, 0, 0), 20);
    }

    private static void loadOfNoBytes() {
        DUE.part("promise 3: n is 0");
        FishGrader g = new FishGrader();
        DUE.argument("load(0) of an empty buffer", () -> g.load(0));
        DUE.same("parseError", g.parseError(), 1);
        DUE.same("errorPosition", g.errorPosition(), 0);
        Due.append(g, GOOD);
        DUE.argument("load(0)", () -> g.load(0));
        DUE.same("parseError", g.parseError(), 1);
        DUE.same("errorPosition", g.errorPosition(), 0);
        DUE.same("the buffer is emptied", g.buffered(), 0);
    }

    private static void loadOutOfRange() {
        DUE.part("promise 3: n is negative or greater than the number of bytes in the buffer");
        FishGrader g = Due.load(GOOD + ";item 5 5 vote cod 9");
        Due.append(g, "grader reference 0  ");
        DUE.argument("load", () -> g.load(20));
        Due.append(g, filled(HEAD, COD, 120));
        String before = Snapshot.of(g);
        for (int n : new int[] {-1, Integer.MIN_VALUE, 121, 1500, 1501, Integer.MAX_VALUE}) {
            DUE.index("load(" + n + ")", () -> g.load(n));
            DUE.same("nothing has changed", Snapshot.of(g), before);
        }
        DUE.same("parseError stays", g.parseError(), 2);
        DUE.same("errorPosition stays", g.errorPosition(), 17);
        DUE.same("the buffer stays", g.load(120), 0);
        DUE.index("load(1) of the empty buffer", () -> g.load(1));
        DUE.same("parseError stays", g.parseError(), 0);
        DUE.same("errorPosition stays", g.errorPosition(), FishGrader.NONE);
    }

    private static void loadOfAPart() {
        DUE.part("promise 3: the first n bytes are parsed, and the buffer is emptied");
        FishGrader g = new FishGrader();
        Due.append(g, GOOD + "!".repeat(40));
        DUE.same("load", g.load(GOOD.length()), 0);
        DUE.same("buffered", g.buffered(), 0);
        Due.append(g, GOOD);
        DUE.same("a number is cut", g.load(GOOD.length()), 0);
        Due.append(g, HEAD + ";species cod target 100 quota 500 boxes 2 price 35");
        g.load(GOOD.length());
        g.addItem(100, 100, 0, 9);
        g.advance(1);
        DUE.same("price 3", g.earnings(0), 300);
    }

    private static void loadSucceeds() {
        DUE.part("promise 3: on success the grader replaces the previous one");
        String text = "grader reference 100 margin 0 limit 0 pool 5;ice 10 20 30 1 0" + COD + COD.replace("cod", "ling")
                + ";item 60 100 vote cod 9;item 70 100 vote cod 9;item 30 100 vote cod 9;item 90 100 vote cod 9"
                + ";item 600 100 vote ling 5;item 100 100 vote ling 9;item 1 1";
        String fresh = Snapshot.ofState(Due.load(text));
        FishGrader g = Due.load(text);
        // More than once: what a first load leaves behind could show in a later one.
        for (int round = 0; round < 4; round++) {
            g.setRule(2);
            g.setTarget(0, 80);
            g.moveQuota(1, 0, 20);
            g.advance(9);
            g.addItem(5, 5, 0, 5);
            g.save();
            DUE.same("an iced box", g.icedAt(0), 7);
            DUE.same("two items in the pool", g.pooled(), 2);
            DUE.same("a discarded item", g.discarded(1), 600);
            DUE.same("a rejected item", g.rejected(), 1);
            DUE.same("closedIn", g.closedIn(100), 0);
            Due.append(g, text);
            DUE.same("the number of items", g.load(text.length()), 7);
            DUE.same("everything is as at first", Snapshot.ofState(g), fresh);
            DUE.same("time", g.time(), 0);
            DUE.same("rule", g.rule(), 0);
            DUE.same("undoable", g.undoable(), 0);
            DUE.state("nothing can be undone", () -> g.undo());
            DUE.state("no state is saved", () -> g.restore());
        }
        g.setLimit(7);
        Due.append(g, text);
        g.load(text.length());
        DUE.same("the limit of the text", g.setLimit(1), 0);
    }

    private static void loadLeavesNothing() {
        DUE.part("promise 3: a grader without stop lines and with other species has nothing of those before");
        FishGrader g = new FishGrader();
        String full = GOOD + ";stop 1 9;stop 10 20;species b target 7 quota 8 boxes 3 price 9;item 5 5 vote b 9 vote cod 3";
        String plain = HEAD + ";species x target 1 quota 5 boxes 1 price 1;item 5 500 vote x 7;item 1 100 vote x 7";
        for (int round = 0; round < 3; round++) {
            for (String text : new String[] {full, full, plain}) {
                Due.append(g, text);
                g.load(text.length());
            }
            DUE.same("isStopped(1)", g.isStopped(1) ? 1 : 0, 0);
            DUE.same("isStopped(15)", g.isStopped(15) ? 1 : 0, 0);
            DUE.same("speciesCount", g.speciesCount(), 1);
            DUE.same("items", g.items(), 2);
            DUE.same("score", g.score(0, 0), 7);
            DUE.same("agreement", g.agreement(0), 7);
            DUE.index("content(0, 1)", () -> g.content(0, 1));
            DUE.index("target(1)", () -> g.target(1));
            DUE.same("advance", g.advance(1), 1);
            DUE.same("boxOf(0)", g.boxOf(0), 0);
            DUE.same("stateOf(1)", g.stateOf(1), 0);
            DUE.same("label", Due.written(g, g.label(0)), "x 1+0 wait");
        }
    }

    private static void loadFails() {
        DUE.part("promise 3: if the text has an error the previous grader stays");
        String text = GOOD + ";item 60 100 vote cod 9;item 70 100 vote cod 9;item 30 100 vote cod 9";
        String[] wrong = {"", HEAD, HEAD + ";", GOOD + ";item 5 5 vote x 5", GOOD + ";item 5 5;ice 9 9 9 9 9;stop 1 9" + COD,
            GOOD.replace("cod", "ling") + ";item 99 1 vote ling 5;item 99 1 vote ling 5 5",
            GOOD + ";item 1 1".repeat(61)};
        for (String other : wrong) {
            FishGrader g = Due.load(text);
            g.advance(1);
            g.save();
            g.setRule(1);
            g.advance(1);
            g.report();
            String before = Snapshot.ofState(g);
            Due.append(g, other);
            DUE.argument("load", () -> g.load(other.length()));
            DUE.same("the state stays", Snapshot.ofState(g), before);
            DUE.same("the buffer is emptied", g.buffered(), 0);
            DUE.same("the written text stays", Snapshot.writtenText(g), "cod 0x100 0 130/500 0;all 0 0");
            DUE.same("undoable", g.undoable(), 3);
            DUE.same("undo", g.undo(), 2);
            DUE.same("time", g.time(), 1);
            DUE.same("restore", g.restore(), 1);
            DUE.same("rule", g.rule(), 0);
        }
    }

    private static void loadFailsWithoutGrader() {
        DUE.part("promise 3: if the first text has an error there is still no grader");
        FishGrader g = new FishGrader();
        Due.append(g, GOOD + ";item 5 5;");
        DUE.argument("load", () -> g.load(g.buffered()));
        DUE.same("items", g.items(), 0);
        DUE.same("speciesCount", g.speciesCount(), 0);
        DUE.state("weight(0)", () -> g.weight(0));
        DUE.state("target(0)", () -> g.target(0));
        DUE.state("advance(1)", () -> g.advance(1));
        DUE.state("save", () -> g.save());
        DUE.state("report", () -> g.report());
    }

    private static void errorsOfTheLatestLoad() {
        DUE.part("promises 4 and 5: the latest call of load");
        FishGrader g = new FishGrader();
        DUE.same("parseError, no load", g.parseError(), 0);
        DUE.same("errorPosition, no load", g.errorPosition(), FishGrader.NONE);
        DUE.index("load(1)", () -> g.load(1));
        DUE.same("parseError, none that counts", g.parseError(), 0);
        DUE.same("errorPosition, none that counts", g.errorPosition(), FishGrader.NONE);
        String[] texts = {"x", "grader reference 0", GOOD + ";item 5 5 vote x", GOOD + ";species cod",
            GOOD + ";item 5 5" + " and 5 5".repeat(3), HEAD, GOOD, HEAD, GOOD};
        int[] codes = {1, 2, 3, 4, 5, 6, 0, 6, 0};
        int[] places = {0, 17, GOOD.length() + 15, GOOD.length() + 9, GOOD.length() + 26, HEAD.length(), -1, HEAD.length(), -1};
        for (int i = 0; i < texts.length; i++) {
            Due.append(g, texts[i]);
            try {
                g.load(texts[i].length());
            } catch (IllegalArgumentException e) {
                DUE.same("load " + i + " throws", codes[i] > 0 ? 1 : 0, 1);
            }
            DUE.same("parseError " + i, g.parseError(), codes[i]);
            DUE.same("errorPosition " + i, g.errorPosition(), places[i]);
        }
    }
}
