import java.util.ArrayList;
import java.util.Arrays;
import java.util.Collections;
import java.util.Comparator;
import java.util.List;
import java.util.NoSuchElementException;
import java.util.Set;

/**
 * A second, slow writing of the document with the Java library, for comparison with FishGrader. It shares no code and
 * as few ideas as possible with it: it keeps lists of objects, copies them whole, and sorts where the document orders.
 */
public final class GraderModel {
    private static final Set<String> RESERVED = Set.of("grader", "reference", "margin", "limit", "pool", "ice", "stop",
            "species", "target", "quota", "boxes", "price", "item", "and", "vote");

    private static final class Fault extends Exception {
        private static final long serialVersionUID = 1;
        final int code;
        final int at;

        Fault(int code, int at) {
            this.code = code;
            this.at = at;
        }
    }

    private record Token(char kind, String text, int at) {
    }

    private static final class Fish {
        final List<int[]> samples = new ArrayList<>();
        final List<int[]> votes = new ArrayList<>();
        int fate = 0;
        int box = -1;

        Fish copy() {
            Fish f = new Fish();
            f.samples.addAll(samples);
            f.votes.addAll(votes);
            f.fate = fate;
            f.box = box;
            return f;
        }
    }

    private static final class Sort {
        String name;
        int target;
        int quota;
        int boxes;
        int price;
        int landed;

        Sort copy() {
            Sort s = new Sort();
            s.name = name;
            s.target = target;
            s.quota = quota;
            s.boxes = boxes;
            s.price = price;
            s.landed = landed;
            return s;
        }
    }

    private static final class Full {
        int number;
        int species;
        int weight;
        int target;
        int closedAt;
        int due;
        int icedAt = -1;

        Full copy() {
            Full f = new Full();
            f.number = number;
            f.species = species;
            f.weight = weight;
            f.target = target;
            f.closedAt = closedAt;
            f.due = due;
            f.icedAt = icedAt;
            return f;
        }

        int giveaway() {
            return weight - target;
        }
    }

    /** Everything of a grader, fixed or not: a copy is always a whole one. */
    private static final class World {
        int reference;
        int margin;
        int limit;
        int poolSize;
        int[] iceLine;
        final List<int[]> stops = new ArrayList<>();
        final List<Sort> sorts = new ArrayList<>();
        final List<Fish> fish = new ArrayList<>();
        final List<Full> full = new ArrayList<>();
        final List<Integer> pool = new ArrayList<>();
        int time;
        int rule;
        int ice;
        int iceUsed;

        World copy() {
            World w = new World();
            w.reference = reference;
            w.margin = margin;
            w.limit = limit;
            w.poolSize = poolSize;
            w.iceLine = iceLine;
            w.stops.addAll(stops);
            sorts.forEach(s -> w.sorts.add(s.copy()));
            fish.forEach(f -> w.fish.add(f.copy()));
            full.forEach(f -> w.full.add(f.copy()));
            w.pool.addAll(pool);
            w.time = time;
            w.rule = rule;
            w.ice = ice;
            w.iceUsed = iceUsed;
            return w;
        }

        int weight(int item) {
            long a = 0;
            long b = 0;
            for (int[] s : fish.get(item).samples) {
                a += (long) s[0] * reference;
                b += s[1];
            }
            long q = a / b;
            if (2 * (a % b) >= b) {
                q++;
            }
            return (int) Math.min(60000, q);
        }

        int score(int item, int species) {
            return fish.get(item).votes.stream().filter(v -> v[0] == species).mapToInt(v -> v[1]).sum();
        }

        int agreement(int item) {
            List<Integer> scores = new ArrayList<>();
            for (int s = 0; s < sorts.size(); s++) {
                scores.add(score(item, s));
            }
            scores.sort(Comparator.reverseOrder());
            return scores.get(0) - (scores.size() > 1 ? scores.get(1) : 0);
        }

        int species(int item) {
            if (fish.get(item).votes.isEmpty() || agreement(item) < margin) {
                return -1;
            }
            int best = 0;
            for (int s = 0; s < sorts.size(); s++) {
                if (score(item, s) > score(item, best)) {
                    best = s;
                }
            }
            return best;
        }

        int content(int species, int place) {
            int sum = 0;
            for (int i = 0; i < fish.size(); i++) {
                if (fish.get(i).fate == 4 && fish.get(i).box == place && species(i) == species) {
                    sum += weight(i);
                }
            }
            return sum;
        }

        int need(Full box) {
            return (int) Math.ceil((double) box.weight * iceLine[0] / 100);
        }

        List<Full> waiting() {
            List<Full> list = new ArrayList<>(full);
            list.removeIf(b -> b.icedAt != -1);
            list.sort(Comparator.<Full>comparingInt(b -> b.due).thenComparingInt(b -> b.number));
            return list;
        }

        boolean stopped(int tick) {
            return stops.stream().anyMatch(s -> s[0] <= tick && tick <= s[1]);
        }

        void tick() {
            time++;
            int melted = 0;
            while (melted * 100 < ice * iceLine[4]) {
                melted++;
            }
            ice -= melted;
            ice += iceLine[1];
            if (ice > iceLine[2]) {
                ice = iceLine[2];
            }
            for (Full box : waiting()) {
                if (need(box) > ice) {
                    break;
                }
                ice -= need(box);
                iceUsed += need(box);
                box.icedAt = time;
            }
            if (stopped(time)) {
                return;
            }
            for (int i = 0; i < fish.size(); i++) {
                if (fish.get(i).fate == 0) {
                    handle(i);
                    return;
                }
            }
        }

        void handle(int item) {
            int species = species(item);
            int weight = weight(item);
            if (species == -1) {
                fish.get(item).fate = 1;
                return;
            }
            Sort sort = sorts.get(species);
            if (sort.landed + weight > sort.quota) {
                fish.get(item).fate = 2;
                return;
            }
            sort.landed += weight;
            List<int[]> exact = new ArrayList<>();
            List<int[]> below = new ArrayList<>();
            List<int[]> all = new ArrayList<>();
            for (int p = 0; p < sort.boxes; p++) {
                int sum = content(species, p) + weight;
                int[] entry = {p, sum};
                all.add(entry);
                if (sum >= sort.target && sum <= sort.target + limit) {
                    exact.add(entry);
                }
                if (sum < sort.target) {
                    below.add(entry);
                }
            }
            Comparator<int[]> place = Comparator.comparingInt(e -> e[0]);
            Comparator<int[]> sum = Comparator.comparingInt(e -> e[1]);
            if (!exact.isEmpty()) {
                put(item, Collections.min(exact, sum.thenComparing(place))[0]);
            } else if (!below.isEmpty()) {
                Comparator<int[]> order = rule == 0 ? place
                        : rule == 1 ? sum.reversed().thenComparing(place) : sum.thenComparing(place);
                put(item, Collections.min(below, order)[0]);
            } else if (pool.size() < poolSize) {
                pool.add(item);
                fish.get(item).fate = 3;
            } else {
                put(item, Collections.min(all, sum.thenComparing(place))[0]);
            }
        }

        void put(int item, int place) {
            fish.get(item).fate = 4;
            fish.get(item).box = place;
            close(species(item), place);
        }

        boolean close(int species, int place) {
            int content = content(species, place);
            int target = sorts.get(species).target;
            if (content < target) {
                return false;
            }
            Full box = new Full();
            box.number = full.size();
            box.species = species;
            box.weight = content;
            box.target = target;
            box.closedAt = time;
            box.due = time + iceLine[3];
            for (int i = 0; i < fish.size(); i++) {
                Fish f = fish.get(i);
                if (f.fate == 4 && f.box == place && species(i) == species) {
                    f.fate = 5;
                    f.box = box.number;
                }
            }
            full.add(box);
            return true;
        }

        boolean late(Full box) {
            return box.icedAt == -1 ? box.due < time : box.icedAt > box.due;
        }

        int late() {
            return (int) full.stream().filter(this::late).count();
        }

        int earnings(int species) {
            int sum = 0;
            for (Full box : full) {
                if (box.species == species) {
                    int all = sorts.get(species).price * box.target;
                    sum += late(box) ? all / 2 : all;
                }
            }
            return sum;
        }

        int allEarnings() {
            int sum = 0;
            for (int s = 0; s < sorts.size(); s++) {
                sum += earnings(s);
            }
            return sum;
        }

        boolean movable(int from, int to, int amount) {
            Sort s = sorts.get(from);
            return from != to && s.quota >= amount && s.quota - amount >= s.landed;
        }

        int giveawayFrom(int first) {
            return full.subList(first, full.size()).stream().mapToInt(Full::giveaway).sum();
        }

        World after(int n) {
            World w = copy();
            for (int i = 0; i < n; i++) {
                w.tick();
            }
            return w;
        }
    }

    private String buffer = "";
    private int error = 0;
    private int errorAt = -1;
    private World world = null;
    private World saved = null;
    private final List<World> past = new ArrayList<>();
    private String text = "";

    // ---- input

    public int append(int a, int b, int c, int d, int e) {
        if (buffer.length() + 20 > 1500) {
            return -1;
        }
        StringBuilder s = new StringBuilder(buffer);
        for (int word : new int[] {a, b, c, d, e}) {
            for (int k = 3; k >= 0; k--) {
                s.append((char) (word >> 8 * k & 255));
            }
        }
        buffer = s.toString();
        return buffer.length();
    }

    public int load(int n) {
        if (n < 0 || n > buffer.length()) {
            throw new IndexOutOfBoundsException();
        }
        String source = buffer.substring(0, n);
        buffer = "";
        try {
            world = new Reader(source).read();
        } catch (Fault f) {
            error = f.code;
            errorAt = f.at;
            throw new IllegalArgumentException();
        }
        error = 0;
        errorAt = -1;
        past.clear();
        saved = null;
        return world.fish.size();
    }

    private static final class Reader {
        final List<Token> tokens = new ArrayList<>();
        int at = 0;
        final World w = new World();

        Reader(String s) {
            int i = 0;
            while (i < s.length()) {
                int from = i;
                char c = s.charAt(i++);
                if (c == ' ') {
                    continue;
                }
                char kind = c >= 'a' && c <= 'z' ? 'w' : c >= '0' && c <= '9' ? 'n' : c == ';' ? ';' : '?';
                if (kind == 'w') {
                    while (i < s.length() && s.charAt(i) >= 'a' && s.charAt(i) <= 'z') {
                        i++;
                    }
                }
                if (kind == 'n') {
                    while (i < s.length() && s.charAt(i) >= '0' && s.charAt(i) <= '9') {
                        i++;
                    }
                }
                String text = s.substring(from, i);
                if (kind == 'w' && text.length() > 9 || kind == 'n' && text.length() > 6) {
                    kind = '?';
                }
                tokens.add(new Token(kind, text, from));
            }
            tokens.add(new Token('$', "", s.length()));
        }

        Token peek() {
            return tokens.get(at);
        }

        boolean is(String word) {
            return peek().kind == 'w' && peek().text.equals(word);
        }

        Fault fault(int code) {
            return new Fault(code, peek().at);
        }

        void word(String word) throws Fault {
            if (!is(word)) {
                throw fault(1);
            }
            at++;
        }

        int number(int low, int high) throws Fault {
            if (peek().kind != 'n') {
                throw fault(1);
            }
            int value = Integer.parseInt(peek().text);
            if (value < low || value > high) {
                throw fault(2);
            }
            at++;
            return value;
        }

        String name() throws Fault {
            if (peek().kind != 'w' || RESERVED.contains(peek().text)) {
                throw fault(1);
            }
            return peek().text;
        }

        int known(String name) {
            for (int s = 0; s < w.sorts.size(); s++) {
                if (w.sorts.get(s).name.equals(name)) {
                    return s;
                }
            }
            return -1;
        }

        World read() throws Fault {
            word("grader");
            word("reference");
            w.reference = number(1, 9999);
            word("margin");
            w.margin = number(0, 99);
            word("limit");
            w.limit = number(0, 9999);
            word("pool");
            w.poolSize = number(0, 10);
            while (peek().kind == ';') {
                at++;
                line();
            }
            if (peek().kind != '$') {
                throw fault(1);
            }
            if (w.sorts.isEmpty()) {
                throw fault(6);
            }
            if (w.iceLine == null) {
                w.iceLine = new int[5];
            }
            return w;
        }

        void line() throws Fault {
            String first = peek().kind == 'w' ? peek().text : "";
            switch (first) {
                case "ice" -> ice();
                case "stop" -> stop();
                case "species" -> species();
                case "item" -> item();
                default -> throw fault(1);
            }
        }

        void ice() throws Fault {
            if (w.iceLine != null) {
                throw fault(4);
            }
            at++;
            w.iceLine = new int[] {number(0, 200), number(0, 9999), number(0, 99999), number(0, 99), number(0, 50)};
        }

        void stop() throws Fault {
            if (w.stops.size() == 4) {
                throw fault(5);
            }
            at++;
            int from = number(1, 999);
            w.stops.add(new int[] {from, number(from, 999)});
        }

        void species() throws Fault {
            if (w.sorts.size() == 4) {
                throw fault(5);
            }
            at++;
            Sort sort = new Sort();
            sort.name = name();
            if (known(sort.name) != -1) {
                throw fault(4);
            }
            at++;
            word("target");
            sort.target = number(1, 30000);
            word("quota");
            sort.quota = number(0, 999999);
            word("boxes");
            sort.boxes = number(1, 3);
            word("price");
            sort.price = number(0, 99);
            w.sorts.add(sort);
        }

        void item() throws Fault {
            if (w.fish.size() == 60) {
                throw fault(5);
            }
            at++;
            Fish f = new Fish();
            f.samples.add(new int[] {number(0, 20000), number(1, 9999)});
            while (is("and")) {
                if (f.samples.size() == 3) {
                    throw fault(5);
                }
                at++;
                f.samples.add(new int[] {number(0, 20000), number(1, 9999)});
            }
            while (is("vote")) {
                if (f.votes.size() == 5) {
                    throw fault(5);
                }
                at++;
                int s = known(name());
                if (s == -1) {
                    throw fault(3);
                }
                at++;
                f.votes.add(new int[] {s, number(1, 99)});
            }
            w.fish.add(f);
        }
    }

    public int parseError() {
        return error;
    }

    public int errorPosition() {
        return errorAt;
    }

    public int buffered() {
        return buffer.length();
    }

    // ---- checks

    private void grader() {
        if (world == null) {
            throw new IllegalStateException();
        }
    }

    private static void index(int i, int size) {
        if (i < 0 || i >= size) {
            throw new IndexOutOfBoundsException();
        }
    }

    private static void range(int v, int low, int high) {
        if (v < low || v > high) {
            throw new IllegalArgumentException();
        }
    }

    private Fish fish(int item) {
        grader();
        index(item, world.fish.size());
        return world.fish.get(item);
    }

    private Sort sort(int species) {
        grader();
        index(species, world.sorts.size());
        return world.sorts.get(species);
    }

    private void place(int species, int place) {
        index(place, sort(species).boxes);
    }

    private Full box(int box) {
        grader();
        index(box, world.full.size());
        return world.full.get(box);
    }

    // ---- items and boxes

    public int items() {
        return world == null ? 0 : world.fish.size();
    }

    public int speciesCount() {
        return world == null ? 0 : world.sorts.size();
    }

    public int weight(int item) {
        fish(item);
        return world.weight(item);
    }

    public int score(int item, int species) {
        fish(item);
        sort(species);
        return world.score(item, species);
    }

    public int speciesOf(int item) {
        fish(item);
        return world.species(item);
    }

    public int stateOf(int item) {
        return fish(item).fate;
    }

    public int boxOf(int item) {
        return fish(item).box;
    }

    public int agreement(int item) {
        fish(item);
        return world.agreement(item);
    }

    public int content(int species, int place) {
        place(species, place);
        return world.content(species, place);
    }

    public int itemsIn(int species, int place) {
        place(species, place);
        int n = 0;
        for (int i = 0; i < world.fish.size(); i++) {
            Fish f = world.fish.get(i);
            if (f.fate == 4 && f.box == place && world.species(i) == species) {
                n++;
            }
        }
        return n;
    }

    public int closed() {
        return world == null ? 0 : world.full.size();
    }

    public int closedSpecies(int box) {
        return box(box).species;
    }

    public int closedWeight(int box) {
        return box(box).weight;
    }

    public int giveaway(int box) {
        return box(box).giveaway();
    }

    public int closedAt(int box) {
        return box(box).closedAt;
    }

    public int icedAt(int box) {
        return box(box).icedAt;
    }

    public int nextIced(int rank) {
        grader();
        List<Full> waiting = world.waiting();
        index(rank, waiting.size());
        return waiting.get(rank).number;
    }

    public int worstBox(int rank) {
        grader();
        List<Full> list = new ArrayList<>(world.full);
        index(rank, list.size());
        list.sort((a, b) -> a.giveaway() != b.giveaway() ? b.giveaway() - a.giveaway() : a.number - b.number);
        return list.get(rank).number;
    }

    // ---- the state

    public int time() {
        return world == null ? 0 : world.time;
    }

    public int rule() {
        return world == null ? 0 : world.rule;
    }

    public int pooled() {
        return world == null ? 0 : world.pool.size();
    }

    public int poolItem(int index) {
        grader();
        index(index, world.pool.size());
        return world.pool.get(index);
    }

    public int ice() {
        return world == null ? 0 : world.ice;
    }

    public int iceUsed() {
        return world == null ? 0 : world.iceUsed;
    }

    public boolean isStopped(int tick) {
        grader();
        if (tick < 1) {
            throw new IllegalArgumentException();
        }
        return world.stopped(tick);
    }

    public int late() {
        grader();
        return world.late();
    }

    public int rejected() {
        return world == null ? 0 : (int) world.fish.stream().filter(f -> f.fate == 1).count();
    }

    public int landed(int species) {
        return sort(species).landed;
    }

    public int discarded(int species) {
        sort(species);
        int sum = 0;
        for (int i = 0; i < world.fish.size(); i++) {
            if (world.fish.get(i).fate == 2 && world.species(i) == species) {
                sum += world.weight(i);
            }
        }
        return sum;
    }

    public int quota(int species) {
        return sort(species).quota;
    }

    public int target(int species) {
        return sort(species).target;
    }

    private int[] giveaways(int species) {
        return world.full.stream().filter(b -> b.species == species).mapToInt(Full::giveaway).toArray();
    }

    public int totalGiveaway(int species) {
        sort(species);
        return Arrays.stream(giveaways(species)).sum();
    }

    public int earnings(int species) {
        sort(species);
        return world.earnings(species);
    }

    public int meanGiveaway(int species, boolean denominator) {
        sort(species);
        int[] all = giveaways(species);
        int sum = Arrays.stream(all).sum();
        if (sum == 0) {
            return denominator ? 1 : 0;
        }
        int a = sum;
        int b = all.length;
        while (b != 0) {
            int r = a % b;
            a = b;
            b = r;
        }
        return denominator ? all.length / a : sum / a;
    }

    // ---- what-if questions

    private void ticks(int n, int most) {
        grader();
        range(n, 1, most);
    }

    public int closedIn(int n) {
        ticks(n, 100);
        return world.after(n).full.size() - world.full.size();
    }

    public int giveawayIn(int n) {
        ticks(n, 100);
        return world.after(n).giveawayFrom(world.full.size());
    }

    public int firstClosed(int species, int n) {
        sort(species);
        ticks(n, 100);
        World w = world.copy();
        for (int i = 1; i <= n; i++) {
            int before = w.full.size();
            w.tick();
            if (w.full.size() > before && w.full.get(before).species == species) {
                return i;
            }
        }
        return -1;
    }

    public int firstLate(int n) {
        ticks(n, 100);
        World w = world.copy();
        for (int i = 1; i <= n; i++) {
            w.tick();
            if (w.late() > world.late()) {
                return i;
            }
        }
        return -1;
    }

    public int bestRule(int n) {
        ticks(n, 100);
        int best = -1;
        double bestMean = 0;
        for (int r = 0; r < 3; r++) {
            World w = world.copy();
            w.rule = r;
            w = w.after(n);
            int count = w.full.size() - world.full.size();
            // Means of at most 80 boxes differ by far more than a double's error where they differ.
            double mean = count == 0 ? Double.MAX_VALUE : (double) w.giveawayFrom(world.full.size()) / count;
            if (best == -1 || mean < bestMean - 1e-7) {
                best = r;
                bestMean = mean;
            }
        }
        return best;
    }

    public int bestMove(int amount, int n) {
        grader();
        range(amount, 1, 999999);
        range(n, 1, 100);
        int base = world.after(n).allEarnings();
        int best = -1;
        int most = base;
        for (int code = 0; code < 40; code++) {
            int from = code / 10;
            int to = code % 10;
            if (from >= world.sorts.size() || to >= world.sorts.size() || !world.movable(from, to, amount)) {
                continue;
            }
            World w = world.copy();
            w.sorts.get(from).quota -= amount;
            w.sorts.get(to).quota += amount;
            int sum = w.after(n).allEarnings();
            if (sum > most) {
                most = sum;
                best = code;
            }
        }
        return best;
    }

    public int bestLimit(int n) {
        ticks(n, 60);
        int best = -1;
        int least = 0;
        for (int l = 1000; l >= 0; l -= 10) {
            World w = world.copy();
            w.limit = l;
            w = w.after(n);
            int cost = w.giveawayFrom(world.full.size()) - 100 * (w.full.size() - world.full.size());
            if (best == -1 || cost <= least) {
                best = l;
                least = cost;
            }
        }
        return best;
    }

    public int combination(int species, int place) {
        place(species, place);
        List<int[]> sets = new ArrayList<>();
        for (int set = 1; set < 1 << world.pool.size(); set++) {
            int sum = world.content(species, place) - sort(species).target;
            boolean own = true;
            for (int k = 0; k < world.pool.size(); k++) {
                if ((set & 1 << k) != 0) {
                    own &= world.species(world.pool.get(k)) == species;
                    sum += world.weight(world.pool.get(k));
                }
            }
            if (own && sum >= 0) {
                sets.add(new int[] {sum, Integer.bitCount(set), set});
            }
        }
        sets.sort(Arrays::compare);
        return sets.isEmpty() ? -1 : sets.get(0)[2];
    }

    public int lookahead(int species, int place, int k) {
        place(species, place);
        range(k, 1, 12);
        List<Integer> sums = new ArrayList<>(List.of(0));
        int taken = 0;
        for (int i = 0; i < world.fish.size() && taken < k; i++) {
            if (world.fish.get(i).fate == 0 && world.species(i) == species) {
                taken++;
                int weight = world.weight(i);
                List<Integer> more = new ArrayList<>();
                sums.forEach(s -> more.add(s + weight));
                sums.addAll(more);
            }
        }
        int lacking = sort(species).target - world.content(species, place);
        int best = -1;
        for (int s : sums.subList(1, sums.size())) {
            if (s >= lacking && (best == -1 || s - lacking < best)) {
                best = s - lacking;
            }
        }
        return best;
    }

    public int iceNeeded() {
        grader();
        return Math.max(0, world.waiting().stream().mapToInt(world::need).sum() - world.ice);
    }

    // ---- changes

    private void change() {
        past.add(world.copy());
        if (past.size() > 8) {
            past.remove(0);
        }
    }

    public int advance(int n) {
        ticks(n, 100);
        change();
        int before = world.full.size();
        world = world.after(n);
        return world.full.size() - before;
    }

    public int combine(int species, int place) {
        int set = combination(species, place);
        if (set == -1) {
            throw new NoSuchElementException();
        }
        change();
        List<Integer> rest = new ArrayList<>();
        for (int k = 0; k < world.pool.size(); k++) {
            int item = world.pool.get(k);
            if ((set & 1 << k) != 0) {
                world.fish.get(item).fate = 4;
                world.fish.get(item).box = place;
            } else {
                rest.add(item);
            }
        }
        world.pool.clear();
        world.pool.addAll(rest);
        world.close(species, place);
        return world.full.size() - 1;
    }

    public int release(int index, int place) {
        int item = poolItem(index);
        int species = world.species(item);
        place(species, place);
        change();
        world.pool.remove(index);
        int before = world.full.size();
        world.put(item, place);
        return world.full.size() > before ? world.full.get(before).giveaway() : -1;
    }

    public int addItem(int reading, int ref, int species, int confidence) {
        sort(species);
        range(reading, 0, 20000);
        range(ref, 1, 9999);
        range(confidence, 1, 99);
        if (world.fish.size() == 80) {
            throw new IllegalStateException();
        }
        change();
        Fish f = new Fish();
        f.samples.add(new int[] {reading, ref});
        f.votes.add(new int[] {species, confidence});
        world.fish.add(f);
        return world.fish.size() - 1;
    }

    public int setRule(int rule) {
        grader();
        range(rule, 0, 2);
        change();
        int old = world.rule;
        world.rule = rule;
        return old;
    }

    public int setLimit(int limit) {
        grader();
        range(limit, 0, 9999);
        change();
        int old = world.limit;
        world.limit = limit;
        return old;
    }

    public int setTarget(int species, int target) {
        sort(species);
        range(target, 1, 30000);
        change();
        int old = sort(species).target;
        sort(species).target = target;
        return old;
    }

    public int moveQuota(int from, int to, int amount) {
        sort(from);
        sort(to);
        range(amount, 1, 999999);
        if (!world.movable(from, to, amount)) {
            throw new IllegalArgumentException();
        }
        change();
        sort(from).quota -= amount;
        sort(to).quota += amount;
        return sort(from).quota;
    }

    public int undo() {
        if (past.isEmpty()) {
            throw new IllegalStateException();
        }
        world = past.remove(past.size() - 1);
        return past.size();
    }

    public int undoable() {
        return past.size();
    }

    public int save() {
        grader();
        saved = world.copy();
        return world.time;
    }

    public int restore() {
        if (saved == null) {
            throw new IllegalStateException();
        }
        world = saved.copy();
        past.clear();
        return world.time;
    }

    // ---- texts

    public int label(int box) {
        Full b = box(box);
        text = String.format("%s %d+%d %s", world.sorts.get(b.species).name, b.weight, b.giveaway(),
                b.icedAt == -1 ? "wait" : "ice" + b.icedAt);
        return text.length();
    }

    public int report() {
        grader();
        List<String> parts = new ArrayList<>();
        for (int s = 0; s < world.sorts.size(); s++) {
            Sort sort = world.sorts.get(s);
            parts.add(String.format("%s %dx%d %d %d/%d %d", sort.name, giveaways(s).length, sort.target,
                    totalGiveaway(s), sort.landed, sort.quota, earnings(s)));
        }
        parts.add("all " + world.full.size() + " " + world.allEarnings());
        text = String.join(";", parts);
        return text.length();
    }

    public int labelByte(int k) {
        index(k, text.length());
        return text.charAt(k);
    }
}
