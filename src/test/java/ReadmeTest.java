/** The example of README.md, call by call. */
public final class ReadmeTest {
    private static final Due DUE = new Due();

    private ReadmeTest() {
    }

    public static void main(String[] args) {
        DUE.part("README");
        FishGrader grader = new FishGrader();
        String text = "grader reference 100 margin 5 limit 10 pool 2;species cod target 100 quota 500 boxes 2 price 3"
                + ";item 55 110 vote cod 9;item 52 100 vote cod 7";
        String filled = text + " ".repeat(19);
        for (int i = 0; i < text.length(); i += 20) {
            int[] words = new int[5];
            for (int k = 0; k < 20; k++) {
                words[k / 4] = words[k / 4] << 8 | filled.charAt(i + k);
            }
            grader.append(words[0], words[1], words[2], words[3], words[4]);
        }
        DUE.same("load", grader.load(text.length()), 2);
        DUE.same("closedIn", grader.closedIn(2), 1);
        DUE.same("time after a question", grader.time(), 0);
        DUE.same("advance", grader.advance(2), 1);
        DUE.same("giveaway", grader.giveaway(0), 2);
        DUE.same("label", grader.label(0), 14);
        DUE.same("labelByte", grader.labelByte(0), 'c');
        DUE.same("text", Due.written(grader, 14), "cod 102+2 wait");
        DUE.same("undo", grader.undo(), 0);
        DUE.same("time after undo", grader.time(), 0);
        DUE.end();
    }
}
