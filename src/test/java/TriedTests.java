/** Promises 16 to 18 and 20 to 32: draws, and what is tried. */
final class TriedTests {
    private TriedTests() {
    }

    public static void main(String[] args) {
        seeds();
        yearByDraws();
        nights();
        where();
        shown();
        all();
        finder();
        safeFor();
        kindFor();
        witFor();
        needed();
        fewest();
        round();
        fits();
        odds();
        hope();
        nobodyIsRefused();
        nothingChanges();
        Check.end();
    }

    private static void seeds() {
        LateSeekers x = new LateSeekers();
        Check.due("16: at first", x.seed(-5), 1);
        Check.due("16: then", x.seed(Integer.MIN_VALUE), -5);
        Check.due("16: least", x.seed(0), Integer.MIN_VALUE);
        x.seed(1);
        x.year();
        Check.due("17: nobody, no draw", x.seed(1), 1);
        x.person(0, 0, 0, 0, 0);
        x.year();
        int z = 1;
        for (int i = 0; i < 2; i++) z = z * 1103515245 + 12345;
        Check.due("17: two draws", x.seed(1), z);
    }

    /** The draws told again here, so that a park can be chosen by what they leave. */
    private static int[] drawn(int seed, int people) {
        int z = seed * 1103515245 + 12345;
        int one = (z >>> 16) % people;
        z = z * 1103515245 + 12345;
        return new int[] {one, (z >>> 16) % 100};
    }

    private static void yearByDraws() {
        int toggled = 0;
        for (int seed = -30; seed < 60; seed++) {
            LateSeekers x = Check.parkOf("lady at 0; lady at 3 seeks; lady at 6; peep 50;");
            x.seed(seed);
            int[] drawn = drawn(seed, 3);
            int due = 0b101;
            if (drawn[1] < 50) {
                due ^= 1 << drawn[0];
                toggled++;
            }
            Check.due("17: HIDDEN by seed " + seed, x.year(), Integer.bitCount(due));
            Check.due("17: who is HIDDEN by seed " + seed, x.state(1), due);
            Check.due("17: a YEAR", x.state(0), 1);
            Check.due("17: AGE", x.of(0, 1), 1);
        }
        Check.holds("17: some were peeped at, some weren't", toggled > 20 && toggled < 70);
        LateSeekers x = Check.parkOf("lady at 0; peep 0;");
        for (int i = 0; i < 20; i++) Check.due("17: PEEP 0", x.year(), 1);
        LateSeekers y = Check.parkOf("child at 4; child at 3 wit 1 seeks; peep 0;");
        y.year();
        Check.due("17: then a YEAR, in which all find", y.state(1), 0b10);
    }

    private static void nights() {
        LateSeekers x = Check.parkOf("lady at 0; lady at 3 seeks; lady at 6; peep 50;");
        x.seed(9);
        int z = 9;
        int due = 0;
        for (int n = 1; n <= 30; n++) {
            int[] drawn = drawn(z, 3);
            if (drawn[1] < 50 && drawn[0] == 1) due++;
            z = (z * 1103515245 + 12345) * 1103515245 + 12345;
            Check.due("18: nights(" + n + ")", x.nights(n), due);
        }
        Check.holds("18: there were such nights", due > 0);
        Check.due("18: z stays", x.seed(9), 9);
        Check.due("18: YEAR stays", x.state(0), 0);
        for (int n : new int[] {0, -1, 31, Integer.MIN_VALUE, Integer.MAX_VALUE}) Check.due("18: n " + n, x.nights(n), -1);
    }

    private static void where() {
        LateSeekers x = Check.parkOf("grandson at 1 seeks; lady at 5;");
        for (int n = 0; n <= 60; n++) Check.due("20: where(0, " + n + ")", x.where(0, n), (1 + 3 * n) % 12);
        // 1 finds 0 behind 2 YEARS, which then goes, but 1 stays
        LateSeekers y = Check.parkOf("child at 4; child at 2 wit 1 seeks;");
        int[] first = {4, 4, 4, 5, 6};
        int[] second = {2, 3, 4, 4, 4};
        for (int n = 0; n < 5; n++) {
            Check.due("20: of the found one", y.where(0, n), first[n]);
            Check.due("20: of the finder", y.where(1, n), second[n]);
        }
        Check.due("20: 61", x.where(0, 61), -1);
        Check.due("20: -1", x.where(0, -1), -1);
        Check.due("20: nobody", x.where(2, 0), -1);
    }

    private static void shown() {
        LateSeekers x = Check.parkOf("lady at 1; lady at 5 seeks; lady at 7 age 59; child at 9 wit 0; child at 6 seeks;");
        Check.due("21: comes out", x.shown(0), 60);
        Check.due("21: SEEKS now", x.shown(1), 0);
        Check.due("21: comes out soon", x.shown(2), 1);
        x.set(0, 61);
        Check.due("21: not by then", x.shown(0), -3);
        LateSeekers y = Check.parkOf("child at 4; child at 0 wit 1 seeks;");
        Check.due("21: found behind 4", y.shown(0), 4);
        // one that comes out, finds and is HIDDEN within a YEAR is not SHOWN behind it
        LateSeekers z = Check.parkOf("child at 0 age 59 wit 9; lady at 1; ");
        Check.due("21: out and in, then out again", z.shown(0), 2);
    }

    private static void all() {
        LateSeekers x = new LateSeekers();
        Check.due("22: nobody at all", x.all(), 0);
        x = Check.parkOf("lady at 1 age 10; lady at 2 age 20; lady at 3 seeks;");
        Check.due("22: when the youngest comes out", x.all(), 50);
        x.age(0, 0);
        Check.due("22: at the very last", x.all(), 60);
        x.set(0, 61);
        Check.due("22: not by then", x.all(), -3);
        // 1 finds 0 and is HIDDEN for it, until 0 finds it, and so on: somebody is, until both come out
        LateSeekers y = Check.parkOf("child at 4; child at 3 wit 1 seeks; cover 4 is 0;");
        Check.due("22: by turns", y.all(), 60);
        y.age(0, 49);
        y.age(1, 39);
        // 0 comes round behind 13, finds 1, is HIDDEN and of 62: it comes out in the next YEAR
        Check.due("22: comes out again", y.all(), 14);
        x.seek(0, 1);
        x.seek(1, 1);
        Check.due("22: now", x.all(), 0);
    }

    private static void finder() {
        LateSeekers x = Check.parkOf("child at 4; lady at 8; child at 0 wit 1 seeks; widower at 0 wit 1 seeks;");
        Check.due("23: the faster", x.finder(0), 3);
        Check.due("23: comes out", x.finder(1), -3);
        Check.due("23: SEEKS now", x.finder(2), -3);
        x.set(0, 99);
        x.mind(0, 5, 9);
        x.cover(4, 9);
        Check.due("23: not by then", x.finder(0), -3);
        // 0 comes out, finds 1, is HIDDEN, and is found by 2, all in one YEAR
        LateSeekers y = Check.parkOf("child at 0 age 59 wit 1; child at 1; child at 0 wit 9 seeks;");
        Check.due("23: shown behind 1", y.shown(0), 1);
        Check.due("23: found in the YEAR in which it came out", y.finder(0), 2);
        // what an earlier question found doesn't stay
        Check.due("23: found by 0", y.finder(1), 0);
        y.years(1);
        Check.due("23: SEEKS now", y.finder(0), -3);
        Check.due("23: nobody", y.finder(3), -1);
    }

    private static void safeFor() {
        LateSeekers x = Check.parkOf("lady at 4; child at 4 wit 0 seeks; cover 7 is 9; cover 9 is 9;");
        // the child sees 3, a lady hides 5 everywhere: no PLACE is better, the least is told
        Check.due("24: all the same", x.safeFor(0), 0);
        x.mind(0, 0, 0);
        x.cover(8, 0);
        for (int i = 0; i < 12; i++) x.cover(i, i == 7 || i == 9 ? 9 : 0);
        Check.due("24: the covered one, the least of two", x.safeFor(0), 7);
        x.cover(7, 2);
        Check.due("24: the other one", x.safeFor(0), 9);
        x.cover(9, 0);
        Check.due("24: where the seeker comes last", x.safeFor(0), 4);
        x.seek(0, 1);
        Check.due("24: tried as HIDDEN", x.safeFor(0), 4);
        x.set(0, 99);
        x.cover(11, 9);
        Check.due("24: never is later than all", x.safeFor(0), 11);
    }

    private static void kindFor() {
        // the keeper of wit 2 sees 9 and comes to 4 behind 3 YEARS
        LateSeekers x = Check.parkOf("child at 4 age 50 wit 3; keeper at 7 wit 2 seeks; cover 4 is 4; dark 3; out 99;");
        // child 7, widower 3, keeper 4, grandson 5, scholar 4 + 5, lady 10: the last two are not found
        Check.due("25: scholar before lady", x.kindFor(0), 4);
        x.age(0, 20);
        Check.due("25: lady", x.kindFor(0), 5);
        x.set(1, 0);
        Check.due("25: all alike", x.kindFor(0), 0);
        x.seek(0, 1);
        Check.due("25: as it is now: SEEKS", x.kindFor(0), 0);
        Check.due("25: keeps its KIND", x.of(0, 0), 0);
    }

    private static void witFor() {
        // a child of wit 2 sees 5 at 4 behind 2 YEARS: COVER 1 and WIT 4 hide from it
        LateSeekers x = Check.parkOf("child at 4 wit 0; child at 2 wit 2 seeks; cover 4 is 1;");
        LateSeekers y = Check.parkOf("child at 4; child at 3 wit 7 seeks; cover 4 is 1;");
        Check.due("26: the most wit is wanted", y.witFor(0, 1), 9);
        Check.due("26: behind 1 no wit is wanted", x.witFor(0, 1), 0);
        Check.due("26: behind 2", x.witFor(0, 2), 4);
        x.cover(4, 9);
        Check.due("26: covered", x.witFor(0, 2), 0);
        Check.due("26: with 7 the seeker sees more than 9, finds and is HIDDEN", x.witFor(1, 20), 7);
        Check.due("26: one that finds nobody by then", x.witFor(1, 1), -3);
        x.cover(4, 0);
        x.mind(1, 3, 9);
        x.bring(1, 1);
        Check.due("26: with none", x.witFor(0, 1), -3);
        for (int n : new int[] {0, 21, -1, Integer.MIN_VALUE, Integer.MAX_VALUE}) Check.due("26: n " + n, x.witFor(0, n), -1);
    }

    private static void needed() {
        // 1 comes to 4 behind 1 YEAR, 2 behind 3, 3 behind 5
        LateSeekers x = Check.parkOf("child at 4; child at 3 wit 9 seeks; child at 1 wit 9 seeks; child at 11 wit 9 seeks;");
        Check.due("27: the first to come", x.needed(0), 1);
        x.bring(2, 3);
        Check.due("27: two come at once, nobody is needed", x.needed(0), -3);
        Check.due("27: SEEKS now", x.needed(1), -3);
        LateSeekers y = Check.parkOf("lady at 4 age 3;");
        Check.due("27: comes out", y.needed(0), -3);
        // without 2, which finds 1, 1 is not let loose on 0
        LateSeekers z = Check.parkOf("child at 5 wit 3; child at 4 wit 9; keeper at 5 wit 9 seeks; lamp 0; out 99;");
        Check.due("27: shown", z.shown(0), 2);
        Check.due("27: finder", z.finder(0), 1);
        Check.due("27: the least of two that are needed alike", z.needed(0), 1);
        z.set(0, 30);
        z.age(1, 25);
        Check.due("27: without 2 it comes out behind 5, without 1 behind 30", z.needed(0), 1);
    }

    private static void fewest() {
        LateSeekers x = Check.parkOf("child at 4; child at 3 wit 9 seeks; child at 1 wit 9 seeks; child at 11 wit 9 seeks;");
        Check.due("28: 1 alone", x.fewest(0, 1), 0b0010);
        Check.due("28: by no set", Check.parkOf("lady at 1;").fewest(0, 20), -3);
        Check.due("28: nobody is wanted where one SEEKS", x.fewest(1, 20), 0);
        Check.due("28: comes out by itself", Check.parkOf("lady at 1 age 59;").fewest(0, 1), 0);
        Check.due("28: behind 3 by 1 or 2", x.fewest(0, 3), 0b0010);
        x.bring(1, 6);
        Check.due("28: 2 alone", x.fewest(0, 3), 0b0100);
        // 2 finds 1, and 1 finds 0
        LateSeekers z = Check.parkOf("child at 5 wit 3; child at 4 wit 9; keeper at 5 wit 9 seeks; lamp 0; out 99;");
        Check.due("28: two are wanted", z.fewest(0, 2), 0b110);
        Check.due("28: not so soon", z.fewest(0, 1), -3);
        LateSeekers w = Check.parkOf("child at 4 wit 2 seeks; widower at 5 wit 3; cover 5 is 0; lamp 9;");
        Check.due("28: nobody is wanted where one SEEKS on", w.fewest(0, 7), 0);
        Check.due("28: its finder is", w.fewest(1, 1), 0b01);
        for (int n : new int[] {0, 21, -1, Integer.MIN_VALUE, Integer.MAX_VALUE}) Check.due("28: n " + n, x.fewest(0, n), -1);
    }

    private static void round() {
        LateSeekers x = new LateSeekers();
        Check.due("29: nobody", x.round(5), 0);
        x = Check.parkOf("lady at 5; lady at 5; lady at 0 seeks;");
        Check.due("29: there already", x.round(5), 0);
        Check.due("29: on", x.round(2), 3);
        Check.due("29: back over 0", Check.parkOf("lady at 10;").round(1), 3);
        Check.due("29: halfway", x.round(11), 6);
        x = Check.parkOf("lady at 1; lady at 11;");
        Check.due("29: either way first", x.round(0), 3);
        Check.due("29: through", x.round(1), 2);
        x = Check.parkOf("lady at 2; lady at 11;");
        Check.due("29: the near one first", x.round(0), 4);
        x = Check.parkOf("lady at 0; lady at 2; lady at 4; lady at 6; lady at 8; lady at 10;");
        Check.due("29: all round but one", x.round(0), 10);
        Check.due("29: from between", x.round(1), 11);
        for (int place : new int[] {-1, 12, Integer.MIN_VALUE, Integer.MAX_VALUE}) Check.due("29: no such", x.round(place), -1);
    }

    private static void fits() {
        // 1 sees 5 and comes to 4 behind 2 YEARS; with wit 0 to 3 the one AT 4 is found and goes from the third on
        LateSeekers x = Check.parkOf("child at 4; child at 2 wit 2 seeks; cover 4 is 1;");
        Check.due("30: missing", x.fits(0, 0, 0), -11);
        x.sheet(0, 2, 0);
        Check.due("30: an empty row fits all", x.fits(0, 0, 0), 10);
        Check.due("30: the least", x.fits(0, 0, 1), 0);
        int[] told = {4, -1, 5};
        for (int sort = 0; sort < 4; sort++) {
            x.sheet(0, sort, 3);
            for (int i = 0; i < 3; i++) x.put(0, i, told[i]);
            Check.due("30: found ones", x.fits(0, 0, 0), 4);
            x.put(0, 2, 4);
            Check.due("30: unfound ones", x.fits(0, 0, 0), 6);
            Check.due("30: the least unfound one", x.fits(0, 0, 1), 4);
            x.put(0, 0, 3);
            Check.due("30: none", x.fits(0, 0, 0), 0);
            Check.due("30: least of none", x.fits(0, 0, 1), -3);
        }
        x.sheet(1, 0, 40);
        for (int i = 0; i < 40; i++) x.put(1, i, -1);
        Check.due("30: forty of any", x.fits(1, 1, 0), 10);
        Check.due("30: no such SHEET", x.fits(4, 0, 0), -1);
        Check.due("30: no such SHEET", x.fits(-1, 0, 0), -1);
        Check.due("30: nobody", x.fits(0, 2, 0), -1);
        Check.due("30: what", x.fits(0, 0, 2), -1);
        Check.due("30: what", x.fits(0, 0, -1), -1);
        Check.due("30: bad before missing", x.fits(3, 2, 0), -1);
    }

    private static void odds() {
        LateSeekers x = new LateSeekers();
        x.set(3, 50);
        int[] above = {1, 1, 7, 7, 35, 7, 7, 1, 1};
        int[] below = {256, 32, 64, 32, 128, 32, 64, 32, 256};
        for (int k = 0; k <= 8; k++) {
            Check.due("31: above, k " + k, x.odds(8, k, 0), above[k]);
            Check.due("31: below, k " + k, x.odds(8, k, 1), below[k]);
        }
        x.set(3, 99);
        Check.due("31: 99 to the eighth", x.odds(8, 8, 0), 9227446944279201L);
        Check.due("31: 100 to the eighth", x.odds(8, 8, 1), 10000000000000000L);
        Check.due("31: one in 100 to the eighth", x.odds(8, 0, 0), 1);
        x.set(3, 0);
        Check.due("31: surely none", x.odds(8, 0, 0), 1);
        Check.due("31: surely none, below", x.odds(8, 0, 1), 1);
        Check.due("31: never", x.odds(8, 3, 0), 0);
        Check.due("31: never, below", x.odds(8, 3, 1), 1);
        Check.due("31: no nights", x.odds(0, 0, 1), 1);
        int[][] bad = {{-1, 0, 0}, {9, 0, 0}, {3, -1, 0}, {3, 4, 0}, {3, 1, 2}, {3, 1, -1}, {Integer.MAX_VALUE, 0, 0}};
        for (int[] b : bad) Check.due("31: bad", x.odds(b[0], b[1], b[2]), -1);
    }

    private static void hope() {
        LateSeekers x = new LateSeekers();
        Check.due("32: above", x.hope(3, 0), 3);
        Check.due("32: below", x.hope(3, 1), 5);
        Check.due("32: whole", x.hope(10, 0), 2);
        Check.due("32: whole, below", x.hope(10, 1), 1);
        Check.due("32: 0", x.hope(0, 0), 0);
        Check.due("32: 0 is 0 by 1", x.hope(0, 1), 1);
        x.set(3, 99);
        Check.due("32: most", x.hope(99, 0), 9801);
        Check.due("32: most, below", x.hope(99, 1), 100);
        x.set(3, 0);
        Check.due("32: none", x.hope(99, 0), 0);
        Check.due("32: none, below", x.hope(99, 1), 1);
        int[][] bad = {{-1, 0}, {100, 0}, {1, 2}, {1, -1}, {Integer.MIN_VALUE, 0}};
        for (int[] b : bad) Check.due("32: bad", x.hope(b[0], b[1]), -1);
    }

    private static void nobodyIsRefused() {
        LateSeekers x = Check.parkOf("child at 1;");
        for (int one : new int[] {-1, 1, 8, Integer.MIN_VALUE, Integer.MAX_VALUE}) {
            Check.due("20: nobody", x.where(one, 1), -1);
            Check.due("21: nobody", x.shown(one), -1);
            Check.due("23: nobody", x.finder(one), -1);
            Check.due("24: nobody", x.safeFor(one), -1);
            Check.due("25: nobody", x.kindFor(one), -1);
            Check.due("26: nobody", x.witFor(one, 1), -1);
            Check.due("27: nobody", x.needed(one), -1);
            Check.due("28: nobody", x.fewest(one, 1), -1);
        }
    }

    private static void nothingChanges() {
        LateSeekers x = Check.parkOf("child at 3 wit 1 seeks; widower at 2 wit 9 seeks; child at 4 age 40; lady at 6;");
        x.seed(3);
        x.sheet(0, 0, 3);
        x.where(0, 60);
        x.shown(3);
        x.all();
        x.finder(2);
        x.safeFor(0);
        x.kindFor(2);
        x.witFor(2, 20);
        x.needed(2);
        x.fewest(2, 20);
        x.round(1);
        x.fits(0, 2, 0);
        x.nights(30);
        x.odds(3, 2, 0);
        int[][] due = {{0, 0, 1, 3, 0, 0}, {1, 0, 9, 2, 0, 0}, {0, 40, 0, 4, 1, 0}, {5, 0, 0, 6, 1, 0}};
        for (int i = 0; i < due.length; i++) {
            for (int what = 0; what < 6; what++) Check.due("20 to 31: of(" + i + ", " + what + ")", x.of(i, what), due[i][what]);
        }
        Check.due("20 to 31: YEAR", x.state(0), 0);
        Check.due("20 to 31: z", x.seed(3), 3);
    }
}
