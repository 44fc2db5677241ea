/** Terms 2: what is TRIED, odds, and draws. */
final class TriedEdges {
    private TriedEdges() {
    }

    static void run() {
        Doc.section("terms 2");
        nothingChanges();
        whereAndWhen();
        finder();
        safeFor();
        kindFor();
        witFor();
        needed();
        fewest();
        round();
        fits();
        oddsAndHope();
        draws();
        yearByDraws();
        nights();
    }

    private static void nothingChanges() {
        Doc.says("What is asked here is TRIED; nothing changes.");
        Play p = TermsEdges.rich();
        p.asked(9, "where", 1, 60).asked(56, "shown", 0).asked(15, "shown", 2).asked(56, "all").asked(-3, "finder", 2);
        p.asked(0, "safeFor", 2).asked(5, "kindFor", 2).asked(1, "witFor", 0, 20).asked(-3, "needed", 2)
            .asked(-3, "fewest", 0, 20);
        p.asked(2, "round", 3).asked(0, "fits", 0, 0, 0).asked(10, "fits", 2, 0, 0).asked(9, "odds", 2, 2, 0)
            .asked(3, "hope", 10, 0);
        p.asked(1, "place", 5, 2).asked(p.call("nights", 30), "nights", 30);
    }

    private static void whereAndWhen() {
        Doc.says("WHERE of one by n: its PLACE behind n YEARS.");
        Play p = Play.of("child at 11 seeks; lady at 4 wit 9;").asked(11, "where", 0, 0).asked(0, "where", 0, 1);
        p.asked(11, "where", 0, 60).asked(10, "where", 0, 59).asked(4, "where", 1, 0).asked(4, "where", 1, 60);
        Play.of("keeper at 0 seeks;").asked(0, "where", 0, 0).asked(11, "where", 0, 1).asked(0, "where", 0, 60);
        Doc.says("SHOWN: behind the fewest YEARS (0 to 60) one SEEKS first.");
        Play q = Play.of("lady at 0; lady at 1 age 1; lady at 2 seeks; lady at 3 age 59; lady at 4 age 99;");
        q.asked(60, "shown", 0).asked(59, "shown", 1).asked(0, "shown", 2).asked(1, "shown", 3).asked(1, "shown", 4);
        q.due(60, "set", 0, 61).asked(-3, "shown", 0).asked(60, "shown", 1).asked(2, "shown", 3);
        // it comes out of 60, finds 1 and is HIDDEN again, all in the first YEAR: behind it it doesn't SEEK
        Play.of("child at 0 age 59 wit 9; lady at 1;").asked(2, "shown", 0);
        // first, though it is HIDDEN again later
        Play.of("child at 4; child at 3 wit 9 seeks; child at 6; cover 6 is 0;").asked(1, "shown", 0).due(2, "years", 3)
            .is(1, "of", 0, 4);
        Doc.says("ALL: behind the fewest (0 to 60) nobody is HIDDEN first.");
        new Play().asked(0, "all");
        Play.of("lady at 0 seeks; lady at 0 seeks;").asked(0, "all");
        Play.of("lady at 0; lady at 1 age 30; lady at 2 seeks;").asked(60, "all").due(60, "set", 0, 61).asked(-3, "all");
        Play.of("lady at 0 age 59;").asked(1, "all");
    }

    private static void finder() {
        Doc.says("FINDER of one: who found it in the YEAR behind which it is SHOWN, if anybody did.");
        Play p = Play.of("child at 4; child at 3 wit 9 seeks; child at 2 wit 9 seeks; lady at 8 wit 9; lady at 9 seeks;");
        p.asked(1, "finder", 0).asked(-3, "finder", 1).asked(-3, "finder", 3).asked(-3, "finder", 4);
        // 0 is the number of one, too
        Play.of("child at 3 wit 9 seeks; child at 4;").asked(0, "finder", 1);
        // found in the 60th YEAR by one that comes out in it; not SHOWN by then one YEAR earlier
        Play q = shownBehind60(3).asked(60, "shown", 0).asked(1, "finder", 0).due(10, "age", 1, 9).asked(-3, "shown", 0)
            .asked(-3, "finder", 0);
        q.due(9, "age", 1, 99).asked(-3, "finder", 1);
    }

    /**
     * A lady AT 0 comes out in the 60th YEAR, of 10 and 60, and finds who is HIDDEN AT 0 (YEAR is even then); else nobody
     * ever SEEKS. One of AGE 1 (a child) is HIDDEN AT that PLACE.
     */
    private static Play shownBehind60(int cover) {
        Play p = Play.of("child at 0; lady at 0 age 9 wit 5; out 70; dark 9;");
        p.call("years", 1);
        p.call("cover", 0, cover);
        return p;
    }

    private static void safeFor() {
        Doc.says("SAFE FOR one: the PLACE AT which, HIDDEN there now, it is SHOWN latest");
        // 1 goes round from 4, and comes to 4 last of all
        Play p = Play.of("child at 4; child at 4 wit 9 seeks; out 99;").asked(4, "safeFor", 0).due(4, "bring", 1, 11);
        p.asked(11, "safeFor", 0).due(11, "bring", 1, 0).asked(0, "safeFor", 0);
        // one that SEEKS is HIDDEN for that
        p.due(0, "seek", 0, 1).asked(0, "safeFor", 0).due(0, "bring", 1, 7).asked(7, "safeFor", 0);
        Doc.says("(not at all within 60 YEARS: later than all);");
        shownBehind60(3).asked(60, "shown", 0).asked(1, "safeFor", 0);
        Play q = Play.of("child at 0; child at 4 wit 6 seeks; out 99; cover 11 is 9;").due(3, "cover", 5, 8)
            .asked(11, "safeFor", 0);
        q.due(9, "cover", 11, 8).asked(4, "safeFor", 0).due(0, "mind", 0, 0, 1).asked(5, "safeFor", 0);
        Doc.says("of several the least.");
        Play.of("lady at 6; lady at 7;").asked(0, "safeFor", 0).asked(0, "safeFor", 1);
        Play.of("child at 0; child at 4 wit 6 seeks; out 99; cover 8 is 9; cover 10 is 9;").asked(8, "safeFor", 0);
    }

    private static void kindFor() {
        Doc.says("KIND FOR one: the KIND as one of which it is SHOWN latest (likewise), as it is now;");
        // 3 and 9 in the dark is what the lady of wit 5, who sees 8, does not see: a lady is never SHOWN, others behind 60
        shownBehind60(3).asked(60, "shown", 0).asked(5, "kindFor", 0);
        // a keeper hides 0, a scholar of 10 hides 1, a widower 1, a grandson 3, a child and a lady more than 1 sees
        Play p = Play.of("widower at 4 age 9; child at 3 seeks; out 99;").asked(0, "kindFor", 0);
        p.due(3, "cover", 4, 2).asked(3, "kindFor", 0).due(1, "mind", 0, 2, 1).asked(0, "kindFor", 0);
        // as it is now: it SEEKS, and so does one of each KIND, though as a lady it would not be found if it were HIDDEN
        Play q = Play.of("child at 4 seeks; lady at 4 wit 5 seeks; dark 9;").asked(0, "kindFor", 0).due(1, "seek", 0, 0);
        q.asked(5, "kindFor", 0);
        Doc.says("of several the least.");
        Play.of("lady at 6;").asked(0, "kindFor", 0);
        // a scholar of 50 (3 + 3 - 3 + 5) and a lady (3 + 3 + 2) alone are not seen by 8
        Play.of("child at 4 age 50 wit 3; child at 3 wit 5 seeks; out 99;").asked(4, "kindFor", 0);
    }

    private static void witFor() {
        Doc.says("WIT FOR one, n: the least WIT (0 to 9) with which it is HIDDEN behind n YEARS.");
        Play p = Play.of("child at 4 wit 5; child at 3 seeks; out 99;").asked(0, "witFor", 0, 1).due(3, "cover", 4, 2)
            .asked(1, "witFor", 0, 1);
        p.due(2, "cover", 4, 0).asked(3, "witFor", 0, 1).due(0, "mind", 1, 0, 6).asked(9, "witFor", 0, 1);
        p.due(0, "mind", 1, 0, 7).asked(-3, "witFor", 0, 1).is(5, "of", 0, 2);
        // behind n YEARS, though it was found before: 0 finds 2 in the fourth
        Play.of("child at 4; child at 3 wit 9 seeks; child at 7 wit 1; cover 4 is 2; cover 7 is 0;").asked(-3, "witFor", 0, 3)
            .asked(0, "witFor", 0, 4);
    }

    private static void needed() {
        Doc.says("NEEDED for one: the one without whom (it finds nobody) it is SHOWN latest (likewise),");
        // without 1 it is 2 that finds it, a YEAR later; without 2 nothing is else
        Play p = Play.of("child at 4; child at 3 wit 9 seeks; child at 2 wit 9 seeks; out 99;").asked(1, "needed", 0);
        p.due(2, "bring", 2, 3).asked(-3, "needed", 0);
        // behind 60 with all, not at all without the lady
        shownBehind60(3).asked(60, "shown", 0).asked(1, "needed", 0);
        // 1 finds 2, and 2 finds 0; without 1, 2 comes out behind 10 and finds 0; without 2, 0 comes out behind 60
        Play chain = Play.of("child at 5 age 10 wit 3; keeper at 5 wit 9 seeks; child at 4 age 60 wit 9; out 70;");
        chain.asked(2, "shown", 0).asked(2, "finder", 0).asked(2, "needed", 0);
        // without 1, 2 comes out behind 60 and finds 0; without 2, 0 is not SHOWN at all
        Play.of("child at 5 wit 3; keeper at 5 wit 9 seeks; child at 4 age 10 wit 9; out 70;").asked(2, "needed", 0);
        Doc.says("later than with all;");
        Play.of("lady at 4 age 3; child at 3 wit 9 seeks; dark 9;").asked(-3, "needed", 0);
        // comes out in the YEAR in which it would be found
        Play.of("child at 4 age 58; child at 2 wit 9 seeks;").asked(2, "shown", 0).asked(-3, "needed", 0);
        Play.of("child at 4; child at 3 wit 9 seeks;").asked(-3, "needed", 1);
        Doc.says("of several the least.");
        // without 1 or without 2 it is never SHOWN
        Play.of("child at 5 wit 3; child at 4 wit 9; keeper at 5 wit 9 seeks; lamp 0; out 99;").asked(1, "needed", 0);
        Play.of("keeper at 5 wit 9 seeks; child at 4 wit 9; child at 5 wit 3; lamp 0; out 99;").asked(0, "needed", 2);
    }

    private static void fewest() {
        Doc.says("FEWEST for one, n: the set of fewest PEOPLE such that, all others finding nobody, it SEEKS behind n YEARS;");
        // 2 alone finds 3, which is fewer than 0 (that finds 1) and 1 (that finds 3)
        Play p = Play.of("keeper at 5 wit 9 seeks; child at 4 wit 9; child at 3 wit 1 seeks; child at 5; out 99;");
        p.asked(0b0100, "fewest", 3, 2).asked(-3, "fewest", 3, 1).due(0, "mind", 2, 0, 0).asked(0b0011, "fewest", 3, 2);
        // nobody is wanted: it SEEKS now, or comes out
        p.asked(0, "fewest", 0, 20);
        Play.of("lady at 0 age 40;").asked(0, "fewest", 0, 20).asked(-3, "fewest", 0, 19);
        Play.of("child at 4; child at 3 wit 9 seeks; out 99;").asked(0b10, "fewest", 0, 1).asked(0b10, "fewest", 0, 20);
        Doc.says("of several the least.");
        Play.of("child at 4; child at 3 wit 9 seeks; child at 3 wit 9 seeks; keeper at 5 wit 9 seeks;")
            .asked(0b0010, "fewest", 0, 1);
        Play.of("child at 3 wit 9 seeks; child at 3 wit 9 seeks; child at 4;").asked(0b001, "fewest", 2, 1);
    }

    private static void round() {
        Doc.says("ROUND from a PLACE: the fewest steps (each to a PLACE next to it, either way) by which all PLACES AT "
            + "which one is HIDDEN are come to");
        Play p = Play.of("lady at 3; lady at 5 seeks;");
        int[] steps = {3, 2, 1, 0, 1, 2, 3, 4, 5, 6, 5, 4};
        for (int place = 0; place < 12; place++) p.asked(steps[place], "round", place);
        // back over 0 and on: the shorter way twice
        Play.of("lady at 11; lady at 2;").asked(4, "round", 0).asked(4, "round", 1).asked(3, "round", 2).asked(3, "round", 11)
            .asked(7, "round", 6);
        Play.of("lady at 10; lady at 3;").asked(7, "round", 0).asked(5, "round", 3).asked(8, "round", 6);
        // all round but one step
        Play all = Play.of("lady at 0; lady at 2; lady at 4; lady at 6; lady at 8; lady at 10;").asked(10, "round", 0)
            .asked(11, "round", 1);
        all.asked(11, "round", 11);
        Play.of("lady at 1; lady at 3; lady at 4; lady at 6; lady at 7; lady at 9; lady at 10; lady at 11;").asked(11, "round", 0)
            .asked(10, "round", 11);
        Doc.says("(0, if there are none, or all are there).");
        new Play().asked(0, "round", 0).asked(0, "round", 11);
        Play.of("lady at 4 seeks;").asked(0, "round", 8);
        Play.of("lady at 11; lady at 11; lady at 3 seeks;").asked(0, "round", 11);
        Doc.says("HELD of a PLACE: how many are HIDDEN AT it.");
        new Play().asked(0, "place", 0, 2);
        Play.of("lady at 4;".repeat(8)).asked(8, "place", 4, 2).asked(0, "place", 3, 2).asked(0, "place", 5, 2)
            .due(0, "seek", 7, 1).asked(7, "place", 4, 2);
    }

    private static void fits() {
        Doc.says("FITS of one by a SHEET: those WITS (0 to 9) of it now with which its PLACE is, behind 1, 2, .. YEARS, "
            + "what the numbers of the SHEET tell, one by one (-1: any).");
        // 1 sees 6 and comes to 4 behind 2 YEARS: one of wit 0 to 2 is found there, and goes in the third
        Play p = Play.of("child at 4 wit 9; child at 2 wit 3 seeks; out 99;").due(1, "sheet", 0, 2, 0).asked(10, "fits", 0, 0, 0)
            .asked(0, "fits", 0, 0, 1);
        for (int sort = 0; sort < 4; sort++) {
            p.call("sheet", 0, sort, 3);
            p.asked(0, "fits", 0, 0, 0).asked(-3, "fits", 0, 0, 1);
            p.due(1, "put", 0, 0, 4).due(1, "put", 0, 1, -1).due(1, "put", 0, 2, 5).asked(3, "fits", 0, 0, 0)
                .asked(0, "fits", 0, 0, 1);
            p.due(1, "put", 0, 2, 4).asked(7, "fits", 0, 0, 0).asked(3, "fits", 0, 0, 1);
            p.due(1, "put", 0, 2, -1).asked(10, "fits", 0, 0, 0).due(1, "put", 0, 1, 5).asked(0, "fits", 0, 0, 0);
            // of it now: WIT stays
            p.is(9, "of", 0, 2);
        }
        // a PLACE round, not a number that would be one: 12 and -2 fit nobody
        Play q = Play.of("child at 11 seeks;").due(1, "sheet", 0, 0, 1).asked(10, "fits", 0, 0, 0).due(1, "put", 0, 0, 12)
            .asked(0, "fits", 0, 0, 0);
        q.due(1, "put", 0, 0, -2).asked(0, "fits", 0, 0, 0).due(1, "put", 0, 0, 255).asked(10, "fits", 0, 0, 0)
            .due(1, "put", 0, 0, 256).asked(10, "fits", 0, 0, 0);
        q.due(1, "sheet", 0, 1, 1).due(1, "put", 0, 0, 255).asked(0, "fits", 0, 0, 0).due(1, "put", 0, 0, 65535)
            .asked(10, "fits", 0, 0, 0);
        q.due(1, "sheet", 0, 2, 1).due(1, "put", 0, 0, 65535).asked(0, "fits", 0, 0, 0).due(1, "put", 0, 0, Integer.MIN_VALUE)
            .asked(0, "fits", 0, 0, 0);
        // forty YEARS, the last of which tells
        Play forty = Play.of("child at 11 seeks;").due(1, "sheet", 3, 3, 40);
        for (int i = 0; i < 40; i++) forty.due(1, "put", 3, i, i % 12);
        forty.asked(10, "fits", 3, 0, 0).due(1, "put", 3, 39, 4).asked(0, "fits", 3, 0, 0).due(1, "put", 3, 39, -1)
            .asked(10, "fits", 3, 0, 0);
    }

    private static void oddsAndHope() {
        Doc.says("ODDS by n, k: that in n nights just k are peeped at, each by PEEP of a hundred.");
        Play p = Play.of("peep 99;").asked(1, "odds", 0, 0, 0).asked(99, "odds", 1, 1, 0).asked(100, "odds", 1, 1, 1)
            .asked(1, "odds", 1, 0, 0);
        p.asked(9227446944279201L, "odds", 8, 8, 0).asked(10000000000000000L, "odds", 8, 8, 1).asked(1, "odds", 8, 0, 0);
        p.asked(10000000000000000L, "odds", 8, 0, 1).asked(99, "odds", 2, 1, 0).asked(5000, "odds", 2, 1, 1);
        Play q = Play.of("peep 50;").asked(35, "odds", 8, 4, 0).asked(128, "odds", 8, 4, 1).due(50, "set", 3, 0);
        q.asked(1, "odds", 8, 0, 0).asked(0, "odds", 8, 1, 0).asked(1, "odds", 8, 1, 1);
        Doc.says("HOPE by n: how many are on average.");
        Play r = Play.of("peep 99;").asked(0, "hope", 0, 0).asked(99, "hope", 1, 0).asked(100, "hope", 1, 1)
            .asked(9801, "hope", 99, 0).asked(100, "hope", 99, 1);
        r.due(99, "set", 3, 1).asked(99, "hope", 99, 0).asked(100, "hope", 99, 1).asked(1, "hope", 50, 0).asked(2, "hope", 50, 1);
    }

    private static int next(int z) {
        return z * 1103515245 + 12345;
    }

    private static void draws() {
        Doc.says("DRAWS: z (an int; 1 at first) becomes z * 1103515245 + 12345; z >>> 16 is drawn.");
        new Play().due(1, "seed", 1);
        int[] seeds = {0, 1, -1, 2, 12345, Integer.MIN_VALUE, Integer.MAX_VALUE, -1103515245, 0x40000000};
        for (int seed : seeds) {
            Play p = Play.of("lady at 0; peep 0;").due(1, "seed", seed).due(1, "year").due(next(next(seed)), "seed", 0);
            p.due(1, "year").due(next(next(0)), "seed", 0);
        }
        // what is drawn is never below 0, though z is
        int below = 0;
        for (int seed = 1; seed <= 40; seed++) {
            Play p = Play.of("lady at 0; lady at 1; lady at 2; lady at 3; lady at 4; lady at 5; lady at 6; peep 99;");
            p.call("seed", seed);
            int who = (next(seed) >>> 16) % 7;
            boolean peeped = (next(next(seed)) >>> 16) % 100 < 99;
            if (next(seed) < 0) below++;
            p.due(peeped ? 6 : 7, "year").is(peeped ? 127 & ~(1 << who) : 127, "state", 1);
        }
        Check.holds(Doc.at() + "some z were below 0", below > 5);
    }

    /** A seed whose first draw leaves who by that many, and whose second leaves rest by 100. */
    private static int seedFor(int people, int who, int rest) {
        for (int seed = 0; seed < 1000000; seed++) {
            if ((next(seed) >>> 16) % people == who && (next(next(seed)) >>> 16) % 100 == rest) return seed;
        }
        throw new IllegalStateException("no such seed");
    }

    private static Play drawn(String text, int people, int who, int rest) {
        Play p = Play.of(text);
        p.call("seed", seedFor(people, who, rest));
        return p;
    }

    private static void yearByDraws() {
        Doc.says("A YEAR BY DRAWS: if there are PEOPLE, a draw: the one that it leaves by how many there are;");
        new Play().due(0, "year").is(1, "state", 0).due(1, "seed", 5).due(0, "year").due(5, "seed", 5).is(2, "state", 0);
        for (int people = 1; people <= 8; people++) {
            for (int who = 0; who < people; who += Math.max(1, people - 1)) {
                Play p = drawn("lady at 0;".repeat(people), people, who, 0).due(people - 1, "year");
                p.is((1 << people) - 1 & ~(1 << who), "state", 1);
            }
        }
        Doc.says("and one more: if what that leaves by 100 is below PEEP,");
        drawn("lady at 0; lady at 1; peep 0;", 2, 1, 0).due(2, "year");
        drawn("lady at 0; lady at 1; peep 1;", 2, 1, 0).due(1, "year");
        drawn("lady at 0; lady at 1; peep 1;", 2, 1, 1).due(2, "year");
        drawn("lady at 0; lady at 1; peep 20;", 2, 1, 19).due(1, "year");
        drawn("lady at 0; lady at 1; peep 20;", 2, 1, 20).due(2, "year");
        drawn("lady at 0; lady at 1; peep 99;", 2, 1, 98).due(1, "year");
        drawn("lady at 0; lady at 1; peep 99;", 2, 1, 99).due(2, "year");
        Doc.says("that one SEEKS, if it is HIDDEN, else it is HIDDEN;");
        drawn("lady at 0; lady at 1 seeks;", 2, 0, 0).due(0, "year");
        drawn("lady at 0; lady at 1 seeks;", 2, 1, 0).due(2, "year");
        Doc.says("then a YEAR.");
        // the one that SEEKS goes and finds already; one that is HIDDEN now is found already, or comes out for its AGE
        Play p = drawn("child at 3 wit 9; child at 4;", 2, 0, 0).due(1, "year");
        p.one(0, 0, 1, 9, 4, 1, 1).one(1, 0, 1, 0, 4, 0, 0).is(1, "state", 0);
        drawn("child at 3 wit 9 seeks; lady at 4 seeks;", 2, 1, 0).due(1, "year").is(1, "state", 1).is(1, "of", 0, 5);
        drawn("child at 3 age 59 seeks; lady at 4 seeks;", 2, 0, 0).due(0, "year").is(4, "of", 0, 3);
    }

    private static void nights() {
        Doc.says("NIGHTS: in how many of n YEARS BY DRAWS, each tried from how all is now (z alone goes on), more are "
            + "HIDDEN than now (nothing changes, z neither).");
        new Play().asked(0, "nights", 1).asked(0, "nights", 30);
        drawn("lady at 0; lady at 1 seeks;", 2, 1, 0).asked(1, "nights", 1);
        // fewer, as many
        drawn("lady at 0; lady at 1 seeks;", 2, 0, 0).asked(0, "nights", 1);
        drawn("lady at 0; lady at 1 seeks;", 2, 1, 99).asked(0, "nights", 1);
        int z = 31;
        int more = 0;
        Play p = Play.of("lady at 0; lady at 1 seeks; lady at 2 seeks; peep 60;");
        p.call("seed", z);
        for (int n = 1; n <= 30; n++) {
            int who = (next(z) >>> 16) % 3;
            z = next(next(z));
            if (who != 0 && (z >>> 16) % 100 < 60) more++;
            p.asked(more, "nights", n);
        }
        Check.holds(Doc.at() + "in some of them", more > 5 && more < 25);
    }
}
