import java.math.BigInteger;
import java.util.ArrayDeque;
import java.util.ArrayList;
import java.util.Arrays;
import java.util.List;
import java.util.regex.Matcher;
import java.util.regex.Pattern;

/**
 * The document told a second time in other means (classes of kinds with super, real rows, exceptions, a search for
 * ROUND, whole numbers of any size for ODDS), for LateSeekers to be held against.
 */
final class Oracle {
    private static final String[] KIND_NAMES = {"child", "widower", "keeper", "grandson", "scholar", "lady"};
    private static final String[] LAW_NAMES = {"out", "dark", "lamp", "peep"};
    private static final int[] LAW_MOST = {99, 9, 9, 99};

    static class Child {
        int n;
        int age;
        int wit;
        int at;
        boolean hidden;
        int finds;
        boolean mute;
        Child foundBy;

        int kind() { return 0; }
        int hides(World w) { return w.cover[at] + wit; }
        int sees(World w) { return 3 + wit; }
        int strides() { return 1; }
        int counts(int x, List<Integer> t) { t.add(10); return x - n * 2; }
        int calls(int x, List<Integer> t) { t.add(11); return counts(x, t) * 2 - wit; }
        int parts(int x, List<Integer> t) { t.add(12); return x / (wit - n); }
        int looks(int x, List<Integer> t) { t.add(13); return calls(x, t) ^ 12; }
    }

    static class Widower extends Child {
        @Override int kind() { return 1; }
        @Override int hides(World w) { return super.hides(w) / 2; }
        @Override int sees(World w) { return super.sees(w) + w.laws[2]; }
        @Override int strides() { return super.strides() + 1; }
        @Override int calls(int x, List<Integer> t) { t.add(20); return super.calls(x, t) + 5; }
    }

    static class Keeper extends Child {
        @Override int kind() { return 2; }
        @Override int hides(World w) { return super.hides(w) - 3; }
        @Override int sees(World w) { return super.sees(w) + 4; }
        @Override int strides() { return super.strides() - 2; }
        @Override int counts(int x, List<Integer> t) { t.add(30); return super.counts(x, t) ^ 3; }
        @Override int looks(int x, List<Integer> t) { t.add(31); return super.looks(x, t) - parts(n, t); }
    }

    static final class Grandson extends Widower {
        @Override int kind() { return 3; }
        @Override int hides(World w) { return super.hides(w) + 2; }
        @Override int sees(World w) { return super.sees(w) * 2; }
        @Override int strides() { return super.strides() + 1; }
        @Override int parts(int x, List<Integer> t) { t.add(50); return super.parts(x + wit, t) * 2; }
        @Override int counts(int x, List<Integer> t) { t.add(51); return super.counts(x, t) - n; }
    }

    static final class Scholar extends Keeper {
        @Override int kind() { return 4; }
        @Override int hides(World w) { return super.hides(w) + age / 10; }
        @Override int sees(World w) { return super.sees(w) - w.laws[1]; }
        @Override int strides() { return super.strides() * 2; }
        @Override int counts(int x, List<Integer> t) { t.add(40); return 1 - super.counts(x, t); }
        @Override int calls(int x, List<Integer> t) { t.add(41); return super.calls(x, t) + counts(wit, t); }
    }

    static final class Lady extends Child {
        @Override int kind() { return 5; }
        @Override int hides(World w) { return super.hides(w) + w.laws[1]; }
        @Override int sees(World w) { return w.year % 2 == 0 ? super.sees(w) : 0; }
        @Override int strides() { return 0; }
        @Override int looks(int x, List<Integer> t) { t.add(60); return super.looks(x, t) * 3; }
        @Override int parts(int x, List<Integer> t) { t.add(61); return super.parts(x, t) ^ counts(n, t); }
    }

    private static final Class<?>[] CLASSES = {Child.class, Widower.class, Keeper.class, Grandson.class, Scholar.class, Lady.class};

    private static Child make(int kind) {
        switch (kind) {
            case 0: return new Child();
            case 1: return new Widower();
            case 2: return new Keeper();
            case 3: return new Grandson();
            case 4: return new Scholar();
            default: return new Lady();
        }
    }

    private static Child as(int kind, Child c) {
        Child d = make(kind);
        d.n = c.n;
        d.age = c.age;
        d.wit = c.wit;
        d.at = c.at;
        d.hidden = c.hidden;
        d.finds = c.finds;
        d.mute = c.mute;
        return d;
    }

    static final class World {
        int[] laws = {60, 2, 1, 20};
        int[] cover = {3, 3, 3, 3, 3, 3, 3, 3, 3, 3, 3, 3};
        int year;
        int z = 1;
        List<Child> people = new ArrayList<>();

        World copy() {
            World w = new World();
            w.laws = laws.clone();
            w.cover = cover.clone();
            w.year = year;
            w.z = z;
            for (Child c : people) w.people.add(as(c.kind(), c));
            return w;
        }

        World behind(int n) {
            for (int i = 0; i < n; i++) pass();
            return this;
        }

        void pass() {
            for (Child c : people) {
                c.foundBy = null;
                c.age = Math.min(99, c.age + 1);
                if (c.hidden && c.age >= laws[0]) c.hidden = false;
            }
            List<Child> seekers = new ArrayList<>();
            for (Child c : people) if (!c.hidden) seekers.add(c);
            for (Child s : seekers) {
                s.at = ((s.at + s.strides()) % 12 + 12) % 12;
                if (s.mute) continue;
                for (Child h : people) {
                    if (!h.hidden || h.at != s.at || h.hides(this) >= s.sees(this)) continue;
                    h.hidden = false;
                    h.foundBy = s;
                    s.hidden = true;
                    s.finds = Math.min(99, s.finds + 1);
                    break;
                }
            }
            year++;
        }

        int draw() {
            z = z * 1103515245 + 12345;
            return z >>> 16;
        }

        void passByDraws() {
            if (!people.isEmpty()) {
                Child c = people.get(draw() % people.size());
                if (draw() % 100 < laws[3]) c.hidden = !c.hidden;
            }
            pass();
        }

        int hiddenOnes() {
            int n = 0;
            for (Child c : people) if (c.hidden) n++;
            return n;
        }

        /** 61 where it isn't by then. */
        int shown(int one) {
            for (int n = 0; n <= 60; n++) {
                if (!people.get(one).hidden) return n;
                if (n < 60) pass();
            }
            return 61;
        }
    }

    private World world = new World();
    private World kept;
    private final StringBuilder tape = new StringBuilder();
    private List<int[]> rows = new ArrayList<>();
    private final Object[] sheets = new Object[4];
    private final Object[] shelves = new Object[4];
    private List<Integer> trace = new ArrayList<>();

    private boolean no(int one) {
        return one < 0 || one >= world.people.size();
    }

    private static boolean not(int v, int least, int most) {
        return v < least || v > most;
    }

    int feed(long eight, int n) {
        if (not(n, 1, 8)) return -1;
        if (tape.length() + n > 200) return -2;
        for (int i = 0; i < n; i++) tape.append((char) (eight >> 8 * i & 255));
        return tape.length();
    }

    private static final class Fault extends Exception {
        private static final long serialVersionUID = 1;
        final int place;

        Fault(int place) {
            this.place = place;
        }
    }

    /** The words of a text with their places; the last is the end. */
    private static final class Words {
        final List<String> words = new ArrayList<>();
        final List<Integer> places = new ArrayList<>();
        int i = 0;

        Words(String text) {
            Matcher m = Pattern.compile("[a-z]+|[0-9]+|[^ ]", Pattern.DOTALL).matcher(text);
            while (m.find()) {
                words.add(m.group());
                places.add(m.start());
            }
            words.add("");
            places.add(text.length());
        }

        String peek() {
            return words.get(i);
        }

        Fault fault() {
            return new Fault(places.get(i));
        }

        void take(String word) throws Fault {
            if (!peek().equals(word)) throw fault();
            i++;
        }

        boolean may(String word) {
            if (!peek().equals(word)) return false;
            i++;
            return true;
        }

        int number(int most) throws Fault {
            if (!peek().matches("[0-9]{1,3}") || Integer.parseInt(peek()) > most) throw fault();
            return Integer.parseInt(words.get(i++));
        }
    }

    private static World read(String text) throws Fault {
        World w = new World();
        Words t = new Words(text);
        while (!t.peek().isEmpty()) {
            int kind = Arrays.asList(KIND_NAMES).indexOf(t.peek());
            int law = Arrays.asList(LAW_NAMES).indexOf(t.peek());
            if (kind >= 0) {
                if (w.people.size() == 8) throw t.fault();
                t.i++;
                Child c = make(kind);
                c.n = w.people.size();
                t.take("at");
                c.at = t.number(11);
                if (t.may("age")) c.age = t.number(99);
                if (t.may("wit")) c.wit = t.number(9);
                c.hidden = !t.may("seeks");
                w.people.add(c);
            } else if (law >= 0) {
                t.i++;
                w.laws[law] = t.number(LAW_MOST[law]);
            } else {
                t.take("cover");
                int place = t.number(11);
                t.take("is");
                w.cover[place] = t.number(9);
            }
            t.take(";");
        }
        return w;
    }

    int park() {
        String text = tape.toString();
        tape.setLength(0);
        try {
            World w = read(text);
            w.z = world.z;
            world = w;
            rows = new ArrayList<>();
            return w.people.size();
        } catch (Fault f) {
            return -100 - f.place;
        }
    }

    int set(int law, int v) {
        if (not(law, 0, 3) || not(v, 0, LAW_MOST[law])) return -1;
        int was = world.laws[law];
        world.laws[law] = v;
        return was;
    }

    int lawOf(int law) {
        return not(law, 0, 3) ? -1 : world.laws[law];
    }

    int person(int kind, int age, int wit, int at, int seeks) {
        if (not(kind, 0, 5) || not(age, 0, 99) || not(wit, 0, 9) || not(at, 0, 11) || not(seeks, 0, 1)) return -1;
        if (world.people.size() == 8) return -2;
        Child c = make(kind);
        c.n = world.people.size();
        c.age = age;
        c.wit = wit;
        c.at = at;
        c.hidden = seeks == 0;
        world.people.add(c);
        return c.n;
    }

    int of(int one, int what) {
        if (no(one) || not(what, 0, 5)) return -1;
        Child c = world.people.get(one);
        return new int[] {c.kind(), c.age, c.wit, c.at, c.hidden ? 1 : 0, c.finds}[what];
    }

    int does(int one, int what) {
        if (no(one) || not(what, 0, 2)) return -1;
        Child c = world.people.get(one);
        return 1000 + new int[] {c.hides(world), c.sees(world), c.strides()}[what];
    }

    int mind(int one, int kind, int wit) {
        if (no(one) || not(kind, 0, 5) || not(wit, 0, 9)) return -1;
        Child c = world.people.get(one);
        Child d = as(kind, c);
        d.wit = wit;
        world.people.set(one, d);
        return c.kind();
    }

    int age(int one, int v) {
        if (no(one) || not(v, 0, 99)) return -1;
        int was = world.people.get(one).age;
        world.people.get(one).age = v;
        return was;
    }

    int bring(int one, int place) {
        if (no(one) || not(place, 0, 11)) return -1;
        int was = world.people.get(one).at;
        world.people.get(one).at = place;
        return was;
    }

    int seek(int one, int v) {
        if (no(one) || not(v, 0, 1)) return -1;
        int was = world.people.get(one).hidden ? 0 : 1;
        world.people.get(one).hidden = v == 0;
        return was;
    }

    int place(int place, int what) {
        if (not(place, 0, 11) || not(what, 0, 2)) return -1;
        int who = 0;
        int held = 0;
        for (Child c : world.people) {
            if (c.at != place) continue;
            who |= 1 << c.n;
            if (c.hidden) held++;
        }
        return new int[] {world.cover[place], who, held}[what];
    }

    int cover(int place, int v) {
        if (not(place, 0, 11) || not(v, 0, 9)) return -1;
        int was = world.cover[place];
        world.cover[place] = v;
        return was;
    }

    int years(int n) {
        if (not(n, 1, 60)) return -1;
        return world.behind(n).hiddenOnes();
    }

    int seed(int v) {
        int was = world.z;
        world.z = v;
        return was;
    }

    int year() {
        world.passByDraws();
        return world.hiddenOnes();
    }

    int nights(int n) {
        if (not(n, 1, 30)) return -1;
        int z = world.z;
        int more = 0;
        for (int i = 0; i < n; i++) {
            World w = world.copy();
            w.z = z;
            w.passByDraws();
            z = w.z;
            if (w.hiddenOnes() > world.hiddenOnes()) more++;
        }
        return more;
    }

    private int hidingPlaces() {
        int set = 0;
        for (Child c : world.people) if (c.hidden) set |= 1 << c.at;
        return set;
    }

    int state(int what) {
        if (not(what, 0, 5)) return -1;
        int[] sums = {world.year, 0, 0, 0, hidingPlaces(), Arrays.stream(world.cover).sum()};
        for (Child c : world.people) {
            if (c.hidden) sums[1] |= 1 << c.n;
            sums[2] += c.age;
            sums[3] += c.finds;
        }
        return sums[what];
    }

    int where(int one, int n) {
        if (no(one) || not(n, 0, 60)) return -1;
        return world.copy().behind(n).people.get(one).at;
    }

    int shown(int one) {
        if (no(one)) return -1;
        int n = world.copy().shown(one);
        return n > 60 ? -3 : n;
    }

    int all() {
        for (int n = 0; n <= 60; n++) if (world.copy().behind(n).hiddenOnes() == 0) return n;
        return -3;
    }

    int finder(int one) {
        if (no(one)) return -1;
        World w = world.copy();
        int n = w.shown(one);
        if (n == 0 || n > 60 || w.people.get(one).foundBy == null) return -3;
        return w.people.get(one).foundBy.n;
    }

    private static int latest(int[] behind) {
        int best = 0;
        for (int i = 1; i < behind.length; i++) if (behind[i] > behind[best]) best = i;
        return best;
    }

    int safeFor(int one) {
        if (no(one)) return -1;
        int[] behind = new int[12];
        for (int place = 0; place < 12; place++) {
            World w = world.copy();
            w.people.get(one).at = place;
            w.people.get(one).hidden = true;
            behind[place] = w.shown(one);
        }
        return latest(behind);
    }

    int kindFor(int one) {
        if (no(one)) return -1;
        int[] behind = new int[6];
        for (int kind = 0; kind < 6; kind++) {
            World w = world.copy();
            w.people.set(one, as(kind, w.people.get(one)));
            behind[kind] = w.shown(one);
        }
        return latest(behind);
    }

    int witFor(int one, int n) {
        if (no(one) || not(n, 1, 20)) return -1;
        for (int wit = 0; wit < 10; wit++) {
            World w = world.copy();
            w.people.get(one).wit = wit;
            if (w.behind(n).people.get(one).hidden) return wit;
        }
        return -3;
    }

    private World withFinders(int set) {
        World w = world.copy();
        for (Child c : w.people) c.mute = (set >> c.n & 1) == 0;
        return w;
    }

    int needed(int one) {
        if (no(one)) return -1;
        int[] behind = new int[world.people.size()];
        for (int i = 0; i < behind.length; i++) behind[i] = withFinders(255 ^ 1 << i).shown(one);
        int best = latest(behind);
        return behind[best] > world.copy().shown(one) ? best : -3;
    }

    int fewest(int one, int n) {
        if (no(one) || not(n, 1, 20)) return -1;
        int best = -3;
        for (int set = 0; set < 1 << world.people.size(); set++) {
            if (best >= 0 && Integer.bitCount(set) >= Integer.bitCount(best)) continue;
            if (!withFinders(set).behind(n).people.get(one).hidden) best = set;
        }
        return best;
    }

    int round(int place) {
        if (not(place, 0, 11)) return -1;
        int wanted = hidingPlaces();
        int[] steps = new int[12 << 12];
        Arrays.fill(steps, -1);
        ArrayDeque<Integer> queue = new ArrayDeque<>();
        int start = place << 12 | 1 << place;
        steps[start] = 0;
        queue.add(start);
        while (!queue.isEmpty()) {
            int now = queue.remove();
            if ((now & wanted) == wanted) return steps[now];
            for (int side = -1; side <= 1; side += 2) {
                int to = ((now >> 12) + side + 12) % 12;
                int next = to << 12 | now & 4095 | 1 << to;
                if (steps[next] >= 0) continue;
                steps[next] = steps[now] + 1;
                queue.add(next);
            }
        }
        throw new IllegalStateException();
    }

    private static int length(Object row) {
        return java.lang.reflect.Array.getLength(row);
    }

    private static long get(Object row, int i) {
        return java.lang.reflect.Array.getLong(row, i);
    }

    private static int sortOf(Object row) {
        return row instanceof byte[] ? 0 : row instanceof short[] ? 1 : row instanceof int[] ? 2 : 3;
    }

    int fits(int sheet, int one, int what) {
        if (not(sheet, 0, 3) || no(one) || not(what, 0, 1)) return -1;
        Object row = sheets[sheet];
        if (row == null) return -11;
        List<Integer> wits = new ArrayList<>();
        for (int wit = 0; wit < 10; wit++) {
            boolean right = true;
            for (int i = 0; i < length(row) && right; i++) {
                World w = world.copy();
                w.people.get(one).wit = wit;
                right = get(row, i) == -1 || w.behind(i + 1).people.get(one).at == get(row, i);
            }
            if (right) wits.add(wit);
        }
        if (what == 0) return wits.size();
        return wits.isEmpty() ? -3 : wits.get(0);
    }

    private static long part(BigInteger above, BigInteger below, int part) {
        return (part == 0 ? above : below).divide(above.gcd(below)).longValueExact();
    }

    long odds(int n, int k, int part) {
        if (not(n, 0, 8) || not(k, 0, n) || not(part, 0, 1)) return -1;
        BigInteger above = BigInteger.ZERO;
        for (int nights = 0; nights < 1 << n; nights++) {
            if (Integer.bitCount(nights) != k) continue;
            BigInteger one = BigInteger.ONE;
            for (int i = 0; i < n; i++) one = one.multiply(BigInteger.valueOf((nights >> i & 1) != 0 ? world.laws[3] : 100 - world.laws[3]));
            above = above.add(one);
        }
        return part(above, BigInteger.valueOf(100).pow(n), part);
    }

    long hope(int n, int part) {
        if (not(n, 0, 99) || not(part, 0, 1)) return -1;
        return part(BigInteger.valueOf((long) n * world.laws[3]), BigInteger.valueOf(100), part);
    }

    private int[] rowBehind(int one, int n) {
        Child c = world.copy().behind(n).people.get(one);
        return new int[] {c.at, c.hidden ? 1 : 0, c.finds};
    }

    int prove(int one, int n) {
        if (no(one) || not(n, 1, 10)) return -1;
        rows = new ArrayList<>();
        for (int i = 1; i <= n; i++) rows.add(rowBehind(one, i));
        return n;
    }

    int row(int i, int what) {
        return not(i, 0, rows.size() - 1) || not(what, 0, 2) ? -9 : rows.get(i)[what];
    }

    int alterRow(int i, int what, int v) {
        if (not(i, 0, rows.size() - 1) || not(what, 0, 2)) return -9;
        int was = rows.get(i)[what];
        rows.get(i)[what] = v;
        return was;
    }

    int judge(int one) {
        if (no(one)) return -1;
        for (int i = 0; i < rows.size(); i++) if (!Arrays.equals(rows.get(i), rowBehind(one, i + 1))) return i + 1;
        return 0;
    }

    int minds(int sheet, int i, int one, int n) {
        if (not(sheet, 0, 3) || no(one) || not(n, 0, 8) || one + n > world.people.size()) return -1;
        if (sheets[sheet] == null) return -11;
        if (!(sheets[sheet] instanceof byte[])) return -13;
        byte[] row = (byte[]) sheets[sheet];
        if (not(i, 0, row.length) || n > row.length - i) return -12;
        for (int k = 0; k < n; k++) world.people.get(one + k).wit = row[i + k] < 0 ? 0 : row[i + k] > 9 ? 9 : row[i + k];
        return n;
    }

    int sheet(int sheet, int sort, int n) {
        if (not(sheet, 0, 3) || not(sort, -1, 3) || sort >= 0 && n > 40) return -1;
        if (sort >= 0 && n < 0) return -14;
        switch (sort) {
            case 0: sheets[sheet] = new byte[n]; break;
            case 1: sheets[sheet] = new short[n]; break;
            case 2: sheets[sheet] = new int[n]; break;
            case 3: sheets[sheet] = new long[n]; break;
            default: sheets[sheet] = null;
        }
        return 1;
    }

    int put(int sheet, int i, int v) {
        if (not(sheet, 0, 3)) return -1;
        Object row = sheets[sheet];
        if (row == null) return -11;
        if (not(i, 0, length(row) - 1)) return -12;
        if (row instanceof byte[]) ((byte[]) row)[i] = (byte) v;
        if (row instanceof short[]) ((short[]) row)[i] = (short) v;
        if (row instanceof int[]) ((int[]) row)[i] = v;
        if (row instanceof long[]) ((long[]) row)[i] = v;
        return 1;
    }

    int item(int sheet, int sort, int i) {
        if (not(sheet, 0, 3) || not(sort, 0, 3)) return -1;
        Object row = sheets[sheet];
        if (row == null) return -11;
        if (sortOf(row) != sort) return -13;
        return not(i, 0, length(row) - 1) ? -12 : (int) get(row, i);
    }

    int shelf(int shelf, int what, int n) {
        if (not(shelf, 0, 3) || not(what, 0, 2)) return -1;
        if (what == 0 && no(n) || what == 1 && not(n, 0, 3)) return -1;
        shelves[shelf] = what == 0 ? Integer.valueOf(n) : what == 1 ? sheets[n] : null;
        return 1;
    }

    private Object held(int shelf) {
        if (!(shelves[shelf] instanceof Integer)) return shelves[shelf];
        int one = (Integer) shelves[shelf];
        return no(one) ? null : world.people.get(one);
    }

    int taken(int shelf, int as) {
        if (not(shelf, 0, 3) || not(as, 0, 5) && not(as, 10, 13)) return -1;
        Object held = held(shelf);
        if (held == null) return -11;
        if (as < 10) return CLASSES[as].isInstance(held) ? ((Child) held).n : -13;
        return !(held instanceof Child) && sortOf(held) == as - 10 ? length(held) : -13;
    }

    int act(int shelf, int act, int x) {
        trace = new ArrayList<>();
        if (not(shelf, 0, 3) || not(act, 0, 3) || !(held(shelf) instanceof Child)) return 0;
        Child c = (Child) held(shelf);
        try {
            switch (act) {
                case 0: return c.counts(x, trace);
                case 1: return c.calls(x, trace);
                case 2: return c.parts(x, trace);
                default: return c.looks(x, trace);
            }
        } catch (ArithmeticException e) {
            return -15;
        }
    }

    int trace(int i) {
        return not(i, 0, Math.min(30, trace.size()) - 1) ? -3 : trace.get(i);
    }

    int many(int what) {
        if (not(what, 0, 6)) return -1;
        int together = 0;
        for (Child c : world.people) {
            for (Child d : world.people) {
                if (c != d && c.at == d.at) {
                    together++;
                    break;
                }
            }
        }
        return new int[] {world.people.size(), world.hiddenOnes(), Integer.bitCount(hidingPlaces()), together, rows.size(),
            tape.length(), Math.min(30, trace.size())}[what];
    }

    int keep() {
        kept = world.copy();
        return 1;
    }

    int again() {
        if (kept == null) return -3;
        world = kept.copy();
        return world.people.size();
    }
}
