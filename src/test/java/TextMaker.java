import java.util.ArrayList;
import java.util.Collections;
import java.util.List;
import java.util.Random;

/** Makes random texts of graders in which boxes fill, ice runs short, and quotas bind. */
public final class TextMaker {
    private final Random random;

    public TextMaker(Random random) {
        this.random = random;
    }

    private int from(int low, int high) {
        return low + random.nextInt(high - low + 1);
    }

    /** A text that fits the buffer and has no error, but for the odd one with a species behind its votes. */
    public String text() {
        int species = from(1, 4);
        List<String> names = new ArrayList<>(List.of("cod", "ling", "x", "haddock", "all", "wait", "redfishes"));
        Collections.shuffle(names, random);
        int scale = random.nextInt(10) == 0 ? 100 : 1;
        StringBuilder s = new StringBuilder();
        s.append("grader reference ").append(100 * scale - random.nextInt(2)).append(" margin ")
                .append(random.nextBoolean() ? 0 : from(0, 12)).append(" limit ").append(from(0, 40))
                .append(" pool ").append(random.nextInt(3) == 0 ? 0 : from(0, 10));
        if (random.nextInt(4) != 0) {
            s.append(";ice ").append(from(0, 120)).append(' ').append(from(0, 120)).append(' ').append(from(0, 400))
                    .append(' ').append(from(0, 6)).append(' ').append(from(0, 50));
        }
        for (int i = random.nextInt(4); i > 0; i--) {
            int start = from(1, 40);
            s.append(";stop ").append(start).append(' ').append(start + from(0, 4));
        }
        for (int i = 0; i < species; i++) {
            s.append(";species ").append(names.get(i)).append(" target ").append(from(40, 250) * scale)
                    .append(" quota ").append(from(100, 4000) * scale).append(" boxes ").append(from(1, 3))
                    .append(" price ").append(from(0, 20));
        }
        int items = random.nextInt(3) == 0 ? 60 : random.nextInt(60);
        for (int i = 0; i < items; i++) {
            String line = item(names.subList(0, species));
            if (s.length() + line.length() > 1500) {
                break;
            }
            s.append(line);
        }
        return s.toString();
    }

    private String item(List<String> names) {
        StringBuilder s = new StringBuilder(";item ");
        sample(s);
        for (int k = random.nextInt(8) == 0 ? from(1, 2) : 0; k > 0; k--) {
            sample(s.append(" and "));
        }
        int votes = random.nextInt(20) == 0 ? 0 : random.nextInt(3) == 0 ? from(2, 5) : 1;
        for (int k = 0; k < votes; k++) {
            s.append(" vote ").append(names.get(random.nextInt(names.size()))).append(' ').append(from(1, 30));
        }
        return s.toString();
    }

    /** A text whose numbers are taken from the whole of their bounds, the bounds themselves among them. */
    public String wideText() {
        int species = from(1, 4);
        List<String> names = List.of("cod", "ling", "x", "redfishes").subList(0, species);
        StringBuilder s = new StringBuilder("grader reference ").append(wide(1, 9999)).append(" margin ")
                .append(random.nextBoolean() ? 0 : wide(0, 99)).append(" limit ").append(wide(0, 9999))
                .append(" pool ").append(wide(0, 10));
        if (random.nextInt(4) != 0) {
            s.append(";ice ").append(wide(0, 200)).append(' ').append(wide(0, 9999)).append(' ')
                    .append(wide(0, 99999)).append(' ').append(wide(0, 99)).append(' ').append(wide(0, 50));
        }
        for (int i = random.nextInt(5); i > 0; i--) {
            int start = random.nextBoolean() ? from(1, 60) : wide(1, 999);
            s.append(";stop ").append(start).append(' ')
                    .append(random.nextBoolean() ? start : wide(start, Math.min(999, start + 20)));
        }
        for (int i = 0; i < species; i++) {
            s.append(";species ").append(names.get(i)).append(" target ").append(wide(1, 30000)).append(" quota ")
                    .append(random.nextBoolean() ? 999999 : wide(0, 999999)).append(" boxes ").append(wide(1, 3))
                    .append(" price ").append(wide(0, 99));
        }
        for (int i = 0; i < 60; i++) {
            StringBuilder line = new StringBuilder(";item ").append(wide(0, 20000)).append(' ').append(wide(1, 9999));
            for (int k = random.nextInt(6) == 0 ? from(1, 2) : 0; k > 0; k--) {
                line.append(" and ").append(wide(0, 20000)).append(' ').append(wide(1, 9999));
            }
            for (int k = random.nextInt(5) == 0 ? from(0, 5) : 1; k > 0; k--) {
                line.append(" vote ").append(names.get(random.nextInt(species))).append(' ').append(wide(1, 99));
            }
            if (s.length() + line.length() > 1500) {
                break;
            }
            s.append(line);
        }
        return s.toString();
    }

    /** Any number of the bounds: one of the bounds, one evenly spread, or one with few digits. */
    public int wide(int low, int high) {
        switch (random.nextInt(8)) {
            case 0:
                return low;
            case 1:
                return high;
            case 2, 3, 4: {
                int most = high;
                for (int k = random.nextInt(4); k > 0 && most / 10 > low; k--) {
                    most /= 10;
                }
                return from(low, most);
            }
            default:
                return from(low, high);
        }
    }

    private void sample(StringBuilder s) {
        s.append(random.nextInt(15) == 0 ? 0 : from(1, 150)).append(' ').append(from(60, 140));
    }
}
