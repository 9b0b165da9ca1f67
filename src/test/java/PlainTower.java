import java.util.ArrayDeque;
import java.util.ArrayList;
import java.util.List;
import java.util.regex.Matcher;
import java.util.regex.Pattern;

/**
 * The document once more, in its slowest and plainest form, to compare the program with: texts by
 * patterns, steps one by one, every order and every set tried from the beginning.
 */
public final class PlainTower {
    static final int NONE = -1000000, BAD = -1000001, STATE = -1000002, FULL = -1000003;
    static final String SORTS = " pilgrim widow boy monk bishop ";
    static final Pattern TOKEN = Pattern.compile("[a-z]+|[0-9]+|[^ \n]", Pattern.DOTALL);

    static final class One implements Cloneable {
        String sort;
        int weight, pace, step, way;

        int burden() {
            switch (sort) {
                case "widow": return weight * 2;
                case "bishop": return weight + 5;
                case "boy": return weight / 2;
                default: return weight;
            }
        }
    }

    static final class World {
        int steps, law, minute, creptEast, creptNorth;
        List<One> people = new ArrayList<>();
        List<int[]> stones = new ArrayList<>();

        World twin() {
            World w = new World();
            w.steps = steps; w.law = law; w.minute = minute;
            w.creptEast = creptEast; w.creptNorth = creptNorth;
            for (One o : people) {
                One c = new One();
                c.sort = o.sort; c.weight = o.weight; c.pace = o.pace; c.step = o.step; c.way = o.way;
                w.people.add(c);
            }
            for (int[] s : stones) w.stones.add(s.clone());
            return w;
        }

        int side(One o) {
            return o.step < 0 || o.step == steps - 1 ? NONE : o.step % 4;
        }

        int[] leans() {
            int[] bySide = new int[4];
            for (One o : people) if (side(o) != NONE) bySide[side(o)] += o.burden();
            for (int[] s : stones) bySide[s[1]] += s[0];
            return new int[] {bySide[0] - bySide[2] + creptEast, bySide[1] - bySide[3] + creptNorth};
        }

        int tilt() {
            int[] l = leans();
            return Math.max(Math.abs(l[0]), Math.abs(l[1]));
        }

        boolean beyond() {
            return tilt() > law;
        }

        void half() {
            minute++;
            for (One o : people) {
                if (minute % o.pace != 0) continue;
                for (int k = 0; k < (o.sort.equals("monk") ? 2 : 1); k++) {
                    if (o.way == 1 && o.step < steps - 1) o.step++;
                    if (o.way == -1 && o.step >= 0) o.step--;
                    if (o.way == 1 && o.step == steps - 1 || o.way == -1 && o.step == -1) o.way = 0;
                }
            }
        }

        void year() {
            int[] l = leans();
            creptEast += l[0] / 10;
            creptNorth += l[1] / 10;
        }

        /** The tilts now and behind each of 64 halves; one may set out late (late: his number, or -1). */
        int[] tilts(int late, int delay) {
            World w = twin();
            int[] all = new int[65];
            for (int h = 0; h <= 64; h++) {
                all[h] = w.tilt();
                if (late >= 0 && h == delay) w.people.get(late).way = 1;
                w.half();
            }
            return all;
        }

        int worst(int late, int delay) {
            int worst = 0;
            for (int t : tilts(late, delay)) worst = Math.max(worst, t);
            return worst;
        }

        int first() {
            int[] all = tilts(-1, 0);
            for (int h = 0; h <= 64; h++) if (all[h] > law) return h;
            return NONE;
        }
    }

    final Object[] rows = new Object[8];
    String tape = "";
    int fault, finding;
    World world;
    ArrayDeque<World> acts = new ArrayDeque<>();
    World[] images = new World[2];
    List<Integer> trace = new ArrayList<>();

    static int lane(Object row) {
        return row instanceof byte[] ? 0 : row instanceof short[] ? 1 : 2;
    }

    static int length(Object row) {
        return java.lang.reflect.Array.getLength(row);
    }

    static int item(Object row, int i) {
        return java.lang.reflect.Array.getInt(row, i);
    }

    int found(int n) {
        finding = n;
        return -1000010 - n;
    }

    int clean(int n) {
        finding = 0;
        return n;
    }

    static boolean in(int n, int least, int most) {
        return least <= n && n <= most;
    }

    public int row(int row, int lane, int n) {
        if (!in(row, 0, 7) || !in(lane, 0, 2) || n > 40) return BAD;
        if (n < 0) return found(4);
        rows[row] = lane == 0 ? new byte[n] : lane == 1 ? new short[n] : new int[n];
        return clean(n);
    }

    public int set(int row, int i, int v) {
        if (!in(row, 0, 7)) return BAD;
        if (rows[row] == null) return found(1);
        if (!in(i, 0, length(rows[row]) - 1)) return found(2);
        if (rows[row] instanceof byte[] b) b[i] = (byte) v;
        if (rows[row] instanceof short[] s) s[i] = (short) v;
        if (rows[row] instanceof int[] n) n[i] = v;
        return clean(item(rows[row], i));
    }

    public int copy(int a, int i, int b, int j, int n) {
        if (!in(a, 0, 7) || !in(b, 0, 7)) return BAD;
        if (rows[a] == null || rows[b] == null) return found(1);
        if (lane(rows[a]) != lane(rows[b])) return found(5);
        if (i < 0 || j < 0 || n < 0) return found(2);
        if ((long) i + n > length(rows[a]) || (long) j + n > length(rows[b])) return found(2);
        System.arraycopy(rows[a], i, rows[b], j, n);
        return clean(n);
    }

    public int drop(int row) {
        if (!in(row, 0, 7)) return BAD;
        if (rows[row] == null) return found(1);
        int n = length(rows[row]);
        rows[row] = null;
        return clean(n);
    }

    public int feed(long w, int n) {
        if (!in(n, 1, 8)) return BAD;
        if (tape.length() + n > 400) return FULL;
        for (int i = n - 1; i >= 0; i--) tape += (char) (w >>> (8 * i) & 255);
        return tape.length();
    }

    /** The rules a token can be held against, in the order of a text; each answers its fault or 0. */
    public int tower() {
        List<String> tokens = new ArrayList<>();
        List<Integer> places = new ArrayList<>();
        Matcher m = TOKEN.matcher(tape);
        while (m.find()) {
            tokens.add(m.group());
            places.add(m.start());
        }
        tokens.add("");
        places.add(tape.length());
        tape = "";
        World w = new World();
        String shape = "law";
        List<Integer> told = new ArrayList<>();
        String sort = "";
        int stage = 0;
        for (int t = 0; t < tokens.size(); t++) {
            String token = tokens.get(t);
            if (shape.isEmpty()) {
                if (token.isEmpty()) {
                    world = w;
                    acts.clear();
                    return w.people.size();
                }
                if (token.equals("person") && stage <= 1) {
                    if (w.people.size() == 7) return faulty(3, places.get(t));
                    shape = "pSWQE;";
                    stage = 1;
                } else if (token.equals("stone")) {
                    if (w.stones.size() == 4) return faulty(3, places.get(t));
                    shape = "sWD;";
                    stage = 2;
                } else {
                    return faulty(1, places.get(t));
                }
                shape = shape.substring(1);
                continue;
            }
            if (shape.equals("law")) {
                if (!token.equals("law")) return faulty(1, places.get(t));
                shape = "TM;";
                continue;
            }
            char due = shape.charAt(0);
            shape = shape.substring(1);
            if (due == ';') {
                if (!token.equals(";")) return faulty(1, places.get(t));
                if (stage == 0) {
                    w.steps = told.get(0);
                    w.law = told.get(1);
                } else if (stage == 1) {
                    One o = new One();
                    o.sort = sort;
                    o.weight = told.get(0);
                    o.pace = told.get(1);
                    o.step = told.get(2) == 99 ? -1 : told.get(2);
                    w.people.add(o);
                } else {
                    w.stones.add(new int[] {told.get(0), told.get(1)});
                }
                told.clear();
                continue;
            }
            if (due == 'S') {
                if (!token.matches("[a-z]+") || !SORTS.contains(" " + token + " ")) return faulty(1, places.get(t));
                sort = token;
                continue;
            }
            if (!token.matches("[0-9]{1,3}")) return faulty(1, places.get(t));
            int n = Integer.parseInt(token);
            boolean fits = due == 'T' ? in(n, 4, 32)
                    : due == 'M' ? in(n, 1, 99)
                    : due == 'W' ? in(n, 1, 20)
                    : due == 'Q' ? in(n, 1, 4)
                    : due == 'D' ? in(n, 0, 3)
                    : n == 99 || in(n, 0, w.steps - 1);
            if (!fits) return faulty(2, places.get(t));
            told.add(n);
        }
        throw new IllegalStateException("the end is a token that always has an answer");
    }

    int faulty(int number, int place) {
        fault = number;
        return -1000100 - place;
    }

    public int fault() {
        return fault;
    }

    void act() {
        acts.addLast(world.twin());
        if (acts.size() > 24) acts.removeFirst();
    }

    boolean isPerson(int p) {
        return world != null && in(p, 0, world.people.size() - 1);
    }

    boolean isStone(int s) {
        return world != null && in(s, 0, world.stones.size() - 1);
    }

    public int go(int person, int way) {
        if (!isPerson(person) || !in(way, -1, 1)) return BAD;
        int old = world.people.get(person).way;
        if (old == way) return old;
        act();
        world.people.get(person).way = way;
        return old;
    }

    public int hang(int stone, int side) {
        if (!isStone(stone) || !in(side, 0, 3)) return BAD;
        int old = world.stones.get(stone)[1];
        if (old == side) return old;
        act();
        world.stones.get(stone)[1] = side;
        return old;
    }

    public int halves(int n) {
        if (world == null) return STATE;
        if (!in(n, 1, 64)) return BAD;
        if (world.minute + n > 9999) return FULL;
        act();
        int first = NONE;
        for (int h = n; h >= 1; h--) {
            world.half();
            if (first == NONE && world.beyond()) first = n - h + 1;
        }
        return first;
    }

    public int year() {
        if (world == null) return STATE;
        if (!in(world.creptEast, -9999, 9999) || !in(world.creptNorth, -9999, 9999)) return FULL;
        act();
        world.year();
        return 1;
    }

    public int undo() {
        if (acts.isEmpty()) return STATE;
        world = acts.removeLast();
        return acts.size();
    }

    public int person(int person, int what) {
        if (!isPerson(person) || !in(what, 0, 4)) return BAD;
        One o = world.people.get(person);
        return new int[] {o.step, o.way, o.burden(), o.pace, world.side(o)}[what];
    }

    public int lean(int what) {
        if (world == null) return STATE;
        if (!in(what, 0, 4)) return BAD;
        int[] l = world.leans();
        return new int[] {l[0], l[1], world.beyond() ? 1 : 0, world.creptEast, world.creptNorth}[what];
    }

    public int worst(int what) {
        if (world == null) return STATE;
        if (!in(what, 0, 1)) return BAD;
        return what == 0 ? world.worst(-1, 0) : world.first();
    }

    public int most() {
        if (world == null) return STATE;
        int best = NONE;
        for (int set = (1 << world.people.size()) - 1; set >= 0; set--) {
            World w = world.twin();
            boolean allOut = true;
            for (int p = 0; p < w.people.size(); p++) {
                if ((set & 1 << p) == 0) continue;
                allOut &= w.people.get(p).step == -1;
                w.people.get(p).way = 1;
            }
            if (!allOut || w.first() != NONE) continue;
            if (best == NONE || Integer.bitCount(set) >= Integer.bitCount(best)) best = set;
        }
        return best;
    }

    public int two(int a, int b, int what) {
        if (!isPerson(a) || !isPerson(b) || a == b || !in(what, 0, 1)) return BAD;
        if (world.people.get(a).step >= 0 || world.people.get(b).step >= 0) return BAD;
        World w = world.twin();
        w.people.get(a).way = 1;
        w.people.get(b).way = 0;
        int best = 9;
        for (int d = 8; d >= 0; d--) if (w.worst(b, d) <= w.worst(b, best)) best = d;
        return what == 0 ? best : w.worst(b, best);
    }

    public int stones(int k) {
        if (world == null) return STATE;
        if (k != -1 && !isStone(k)) return BAD;
        int n = world.stones.size();
        int least = Integer.MAX_VALUE;
        int[] sides = new int[n], best = new int[n];
        for (boolean more = true; more; ) {
            World w = world.twin();
            for (int s = 0; s < n; s++) w.stones.get(s)[1] = sides[s];
            if (w.worst(-1, 0) < least) {
                least = w.worst(-1, 0);
                best = sides.clone();
            }
            int at = n - 1;
            while (at >= 0 && sides[at] == 3) sides[at--] = 0;
            more = at >= 0;
            if (more) sides[at]++;
        }
        return k == -1 ? least : best[k];
    }

    public int marks(int row, int east, int north, int i) {
        if (world == null) return STATE;
        if (!in(row, 0, 7) || !in(east, -999, 999) || !in(north, -999, 999) || i < -1) return BAD;
        if (rows[row] == null) return found(1);
        int n = world.people.size();
        if (length(rows[row]) < n) return found(2);
        for (int p = 0; p < n; p++) if (!in(item(rows[row], p), -1, world.steps - 1)) return BAD;
        List<Integer> fits = new ArrayList<>();
        for (int set = 0; set < 1 << n; set++) {
            World w = world.twin();
            for (int p = 0; p < n; p++) w.people.get(p).step = (set & 1 << p) == 0 ? -1 : item(rows[row], p);
            if (w.leans()[0] == east && w.leans()[1] == north) fits.add(set);
        }
        return clean(i == -1 ? fits.size() : i < fits.size() ? fits.get(i) : NONE);
    }

    /** The first order of things (each once) that is lawful, things tried by number. */
    boolean order(World w, List<Integer> out) {
        if (w.beyond()) return false;
        boolean any = false;
        for (int p = 0; p < w.people.size(); p++) {
            if (w.people.get(p).step < 0) continue;
            any = true;
            World then = w.twin();
            then.people.get(p).step = -1;
            out.add(p);
            if (order(then, out)) return true;
            out.remove(out.size() - 1);
        }
        return !any;
    }

    public int rescue(int k) {
        if (world == null) return STATE;
        if (k < 0) return BAD;
        List<Integer> out = new ArrayList<>();
        return order(world.twin(), out) && k < out.size() ? out.get(k) : NONE;
    }

    public int fall() {
        if (world == null) return STATE;
        World w = world.twin();
        for (int y = 0; y < 100; y++, w.year()) if (w.beyond()) return y;
        return NONE;
    }

    void orders(List<Integer> sofar, int n, List<List<Integer>> all) {
        if (sofar.size() == n) all.add(new ArrayList<>(sofar));
        for (int b = 0; b < n; b++) {
            if (sofar.contains(b)) continue;
            sofar.add(b);
            orders(sofar, n, all);
            sofar.remove(sofar.size() - 1);
        }
    }

    public int bells(int row, int n, int k) {
        if (!in(row, 0, 7) || !in(n, 1, 5) || k < -1) return BAD;
        if (rows[row] == null) return found(1);
        if (length(rows[row]) < n) return found(2);
        for (int b = 0; b < n; b++) if (!in(item(rows[row], b), 1, 20)) return BAD;
        List<List<Integer>> all = new ArrayList<>();
        orders(new ArrayList<>(), n, all);
        int least = Integer.MAX_VALUE;
        List<Integer> best = all.get(0);
        for (List<Integer> order : all) {
            int sum = 0, greatest = 0;
            for (int at = 0; at < n; at++) {
                int nod = item(rows[row], order.get(at));
                sum += at % 2 == 0 ? nod : -nod;
                greatest = Math.max(greatest, Math.abs(sum));
            }
            if (greatest < least) {
                least = greatest;
                best = order;
            }
        }
        return clean(k == -1 ? least : k < n ? best.get(k) : NONE);
    }

    public int image(int k) {
        if (!in(k, 0, 1)) return BAD;
        if (world == null) return STATE;
        images[k] = world.twin();
        return 1;
    }

    public int restore(int k) {
        if (!in(k, 0, 1)) return BAD;
        if (images[k] == null) return STATE;
        world = images[k].twin();
        acts.clear();
        return 1;
    }

    static int kindOf(String sort) {
        return List.of("pilgrim", "widow", "boy", "monk", "bishop").indexOf(sort) + 1;
    }

    public int kind(int person) {
        return isPerson(person) ? kindOf(world.people.get(person).sort) : BAD;
    }

    public int as(int person, int kind) {
        if (!isPerson(person) || !in(kind, 0, 5)) return BAD;
        int own = kind(person);
        boolean is = kind == own || kind == 0 || kind == 1 && own <= 3 || kind == 4 && own == 5;
        return is ? clean(person) : found(3);
    }

    int body(int number, int p) {
        trace.add(number);
        One o = world.people.get(p);
        switch (number) {
            case 10: return o.burden();
            case 11: return body(10, p) + begin(1, p);
            case 12: return 0 - body(11, p);
            case 13: return body(10, p) - 100;
            case 14: return body(13, p) * 2;
            case 20: return p;
            case 21: return body(20, p) + o.pace;
            case 22: return body(21, p) - 1000;
            case 23: return body(20, p) - begin(0, p);
            default: return body(21, p) * 2;
        }
    }

    int begin(int what, int p) {
        int[][] bodies = {{11, 11, 12, 13, 14}, {21, 22, 24, 23, 23}};
        return body(bodies[what][kind(p) - 1], p);
    }

    public int ask(int person, int what) {
        if (!isPerson(person) || !in(what, 0, 1)) return BAD;
        trace.clear();
        return begin(what, person);
    }

    public int trace(int i) {
        return in(i, 0, Math.min(16, trace.size()) - 1) ? trace.get(i) : NONE;
    }

    public int count(int what) {
        if (!in(what, 0, 6)) return BAD;
        int there = 0, inside = 0;
        for (Object row : rows) if (row != null) there++;
        World w = world == null ? new World() : world;
        for (One o : w.people) if (o.step >= 0) inside++;
        return new int[] {there, w.people.size(), w.stones.size(), w.minute, acts.size(), inside, tape.length()}[what];
    }

    public int status() {
        return finding;
    }
}
