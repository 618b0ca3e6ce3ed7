/** Counts the answers that are not the due ones, and loads texts into graders. */
public final class Due {
    private int wrong = 0;
    private String part = "";

    public void part(String name) {
        part = name;
    }

    public void same(String what, long got, long want) {
        if (got != want) {
            wrong++;
            System.out.println(part + ": " + what + " answered " + got + ", due is " + want);
        }
    }

    public void same(String what, String got, String want) {
        if (!got.equals(want)) {
            wrong++;
            System.out.println(part + ": " + what + " answered '" + got + "', due is '" + want + "'");
        }
    }

    public void fails(String what, Class<? extends RuntimeException> want, Runnable call) {
        String got = "nothing";
        try {
            call.run();
        } catch (RuntimeException e) {
            got = e.getClass().getSimpleName();
        }
        same(what + " throws", got, want.getSimpleName());
    }

    public void state(String what, Runnable call) {
        fails(what, IllegalStateException.class, call);
    }

    public void index(String what, Runnable call) {
        fails(what, IndexOutOfBoundsException.class, call);
    }

    public void argument(String what, Runnable call) {
        fails(what, IllegalArgumentException.class, call);
    }

    public void end() {
        if (wrong > 0) {
            System.out.println(wrong + " wrong");
            System.exit(1);
        }
    }

    // ---- texts of graders

    /** Appends a text, filled up with blanks to a multiple of twenty bytes. */
    public static void append(FishGrader grader, String text) {
        StringBuilder filled = new StringBuilder(text);
        while (filled.length() % 20 != 0) {
            filled.append(' ');
        }
        for (int i = 0; i < filled.length(); i += 20) {
            grader.append(word(filled, i), word(filled, i + 4), word(filled, i + 8), word(filled, i + 12),
                    word(filled, i + 16));
        }
    }

    private static int word(StringBuilder text, int at) {
        return text.charAt(at) << 24 | text.charAt(at + 1) << 16 | text.charAt(at + 2) << 8 | text.charAt(at + 3);
    }

    public static FishGrader load(String text) {
        FishGrader grader = new FishGrader();
        append(grader, text);
        grader.load(text.length());
        return grader;
    }

    /** The error of a text as code@position; 0@-1 for a good one. */
    public static String error(String text) {
        FishGrader grader = new FishGrader();
        append(grader, text);
        try {
            grader.load(text.length());
        } catch (IllegalArgumentException e) {
            if (grader.parseError() == 0) {
                return "thrown without an error";
            }
        }
        return grader.parseError() + "@" + grader.errorPosition();
    }

    public static String written(FishGrader grader, int length) {
        StringBuilder text = new StringBuilder();
        for (int i = 0; i < length; i++) {
            text.append((char) grader.labelByte(i));
        }
        return text.toString();
    }
}
