import java.util.Random;

/** Runs of calls, drawn from fixed seeds, on LateSeekers and on the Oracle: the answers must be the same. */
final class OracleTests {
    private static final int RUNS = 1500;
    private static final int CALLS = 200;
    private static final String[] WORDS = {"child", "widower", "keeper", "grandson", "scholar", "lady", "at", "age", "wit",
        "seeks", ";", "cover", "is", "out", "dark", "lamp", "peep", "7", "11", "12", "99", "100", "0003", "x", "=", " "};

    private final Random random;
    private final LateSeekers x = new LateSeekers();
    private final Oracle o = new Oracle();
    private final String run;

    private OracleTests(int seed) {
        random = new Random(seed);
        run = "run " + seed + ": ";
    }

    public static void main(String[] args) {
        for (int seed = 0; seed < RUNS; seed++) {
            OracleTests t = new OracleTests(seed);
            for (int i = 0; i < CALLS; ) i += t.random.nextInt(12) == 0 ? t.text() : t.call(t.random.nextInt(56));
        }
        Check.end();
    }

    /** Mostly within 0 to most, sometimes just outside, rarely far off. */
    private int v(int most) {
        int luck = random.nextInt(60);
        if (luck == 0) return -1;
        if (luck == 1) return most + 1;
        if (luck == 2) return random.nextInt();
        return random.nextInt(most + 1);
    }

    private int one() {
        int people = x.many(0);
        return people == 0 || random.nextInt(30) == 0 ? v(8) : random.nextInt(people);
    }

    private int text() {
        StringBuilder text = new StringBuilder();
        int statements = random.nextInt(10);
        for (int i = 0; i < statements; i++) text.append(statement());
        if (random.nextInt(3) == 0) {
            int at = random.nextInt(text.length() + 1);
            text.insert(at, WORDS[random.nextInt(WORDS.length)]);
        }
        if (random.nextInt(4) == 0) text.setLength(random.nextInt(text.length() + 1));
        int calls = 0;
        for (int i = 0; i < text.length(); i += 8) {
            long eight = random.nextLong();
            int n = Math.min(8, text.length() - i);
            for (int k = n - 1; k >= 0; k--) eight = eight << 8 | text.charAt(i + k);
            Check.due(run + "feed", x.feed(eight, n), o.feed(eight, n));
            calls++;
        }
        Check.due(run + "park of " + text, x.park(), o.park());
        return calls + 1;
    }

    private String statement() {
        String blank = random.nextInt(3) == 0 ? "" : " ";
        switch (random.nextInt(9)) {
            case 0: return "cover " + random.nextInt(12) + blank + "is " + random.nextInt(10) + ";" + blank;
            case 1: return WORDS[13 + random.nextInt(4)] + blank + random.nextInt(10) + blank + ";";
            default: return WORDS[random.nextInt(6)] + " at " + random.nextInt(12)
                + (random.nextBoolean() ? blank + "age " + random.nextInt(100) : "")
                + (random.nextBoolean() ? " wit" + blank + random.nextInt(10) : "")
                + (random.nextBoolean() ? " seeks" : "") + blank + ";" + blank;
        }
    }

    private int call(int which) {
        if (which < 20) return change(which);
        if (which < 36) return ask(which);
        return thing(which);
    }

    private int change(int which) {
        int a = one();
        int b = v(5);
        int c = v(9);
        switch (which) {
            case 0: Check.due(run + "set", x.set(b % 4, c), o.set(b % 4, c)); break;
            case 1: Check.due(run + "lawOf", x.lawOf(b), o.lawOf(b)); break;
            case 2:
            case 3: {
                int at = v(11);
                int age = v(99);
                int seeks = v(1);
                Check.due(run + "person", x.person(b, age, c, at, seeks), o.person(b, age, c, at, seeks));
                break;
            }
            case 4:
            case 5: Check.due(run + "of", x.of(a, b), o.of(a, b)); break;
            case 6: Check.due(run + "does", x.does(a, b % 4), o.does(a, b % 4)); break;
            case 7: Check.due(run + "mind", x.mind(a, b, c), o.mind(a, b, c)); break;
            case 8: {
                int age = v(99);
                Check.due(run + "age", x.age(a, age), o.age(a, age));
                break;
            }
            case 9: {
                int place = v(11);
                Check.due(run + "bring", x.bring(a, place), o.bring(a, place));
                break;
            }
            case 10: Check.due(run + "seek", x.seek(a, b % 3), o.seek(a, b % 3)); break;
            case 11: Check.due(run + "place", x.place(c, b % 4), o.place(c, b % 4)); break;
            case 12: {
                int place = v(11);
                Check.due(run + "cover", x.cover(place, c), o.cover(place, c));
                break;
            }
            case 13: Check.due(run + "years", x.years(b), o.years(b)); break;
            case 14: {
                int n = v(60);
                Check.due(run + "years", x.years(n), o.years(n));
                break;
            }
            case 15: {
                int seed = random.nextInt();
                Check.due(run + "seed", x.seed(seed), o.seed(seed));
                break;
            }
            case 16: Check.due(run + "year", x.year(), o.year()); break;
            case 17: Check.due(run + "keep", x.keep(), o.keep()); break;
            case 18: Check.due(run + "again", x.again(), o.again()); break;
            default: Check.due(run + "state", x.state(b), o.state(b));
        }
        return 1;
    }

    private int ask(int which) {
        int a = one();
        int n = v(20);
        int p = v(1);
        switch (which) {
            case 20: Check.due(run + "nights", x.nights(n), o.nights(n)); break;
            case 21: {
                int far = v(60);
                Check.due(run + "where", x.where(a, far), o.where(a, far));
                break;
            }
            case 22: Check.due(run + "shown", x.shown(a), o.shown(a)); break;
            case 23: Check.due(run + "all", x.all(), o.all()); break;
            case 24:
            case 25: Check.due(run + "finder", x.finder(a), o.finder(a)); break;
            case 26: Check.due(run + "safeFor", x.safeFor(a), o.safeFor(a)); break;
            case 27: Check.due(run + "kindFor", x.kindFor(a), o.kindFor(a)); break;
            case 28: Check.due(run + "witFor", x.witFor(a, n), o.witFor(a, n)); break;
            case 29: Check.due(run + "needed", x.needed(a), o.needed(a)); break;
            case 30: Check.due(run + "fewest", x.fewest(a, n), o.fewest(a, n)); break;
            case 31: Check.due(run + "round", x.round(n % 13), o.round(n % 13)); break;
            case 32:
            case 33: return fits(a);
            case 34: {
                int nights = v(8);
                int k = v(Math.max(0, Math.min(8, nights)));
                Check.due(run + "odds", x.odds(nights, k, p), o.odds(nights, k, p));
                break;
            }
            default: {
                int nights = v(99);
                Check.due(run + "hope", x.hope(nights, p), o.hope(nights, p));
            }
        }
        return 1;
    }

    /** A SHEET made from how it will go, with one item in some spoilt, so that some wits fit and some don't. */
    private int fits(int a) {
        int n = random.nextInt(8);
        int sort = random.nextInt(4);
        Check.due(run + "sheet", x.sheet(3, sort, n), o.sheet(3, sort, n));
        for (int i = 0; i < n; i++) {
            int told = random.nextInt(3) == 0 ? -1 : x.where(a, i + 1);
            if (random.nextInt(20) == 0) told = v(11);
            Check.due(run + "put", x.put(3, i, told), o.put(3, i, told));
        }
        for (int what = 0; what < 2; what++) Check.due(run + "fits", x.fits(3, a, what), o.fits(3, a, what));
        return 2 * n + 3;
    }

    private int thing(int which) {
        int a = one();
        int s = v(3);
        int t = v(3);
        int i = v(11);
        int far = random.nextBoolean() ? random.nextInt() : random.nextInt(40) - 20;
        switch (which) {
            case 36: Check.due(run + "prove", x.prove(a, i), o.prove(a, i)); break;
            case 37: Check.due(run + "row", x.row(i, t), o.row(i, t)); break;
            case 38: Check.due(run + "alterRow", x.alterRow(i, t, t), o.alterRow(i, t, t)); break;
            case 39:
            case 40: Check.due(run + "judge", x.judge(a), o.judge(a)); break;
            case 41:
            case 42: Check.due(run + "minds", x.minds(s, i, a, t), o.minds(s, i, a, t)); break;
            case 43:
            case 44: {
                int sort = random.nextInt(3) == 0 ? 0 : t;
                int n = v(40);
                Check.due(run + "sheet", x.sheet(s, sort, n), o.sheet(s, sort, n));
                break;
            }
            case 45:
            case 46: Check.due(run + "put", x.put(s, i, far), o.put(s, i, far)); break;
            case 47: Check.due(run + "item", x.item(s, t, i), o.item(s, t, i)); break;
            case 48: Check.due(run + "shelf", x.shelf(s, 1, t), o.shelf(s, 1, t)); break;
            case 49: Check.due(run + "shelf", x.shelf(s, t, a), o.shelf(s, t, a)); break;
            case 50: Check.due(run + "shelf", x.shelf(s, 0, a), o.shelf(s, 0, a)); break;
            case 51: Check.due(run + "taken", x.taken(s, i), o.taken(s, i)); break;
            case 52:
            case 53:
            case 54: return acts(s, t, far);
            default: Check.due(run + "many", x.many(i % 8), o.many(i % 8));
        }
        return 1;
    }

    private int acts(int s, int act, int far) {
        Check.due(run + "act", x.act(s, act, far), o.act(s, act, far));
        Check.due(run + "many(6)", x.many(6), o.many(6));
        for (int k = -1; k < 12; k++) Check.due(run + "trace", x.trace(k), o.trace(k));
        return 15;
    }
}
