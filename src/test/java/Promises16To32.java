/** Promises 16 to 32, sentence by sentence: draws, and what is tried. */
final class Promises16To32 {
    private static final int LEAST = Integer.MIN_VALUE, MOST = Integer.MAX_VALUE;

    private Promises16To32() {
    }

    static void run() {
        seedAndYear();
        nights();
        state();
        where();
        shownAndAll();
        finder();
        safeForAndKindFor();
        witFor();
        needed();
        fewest();
        round();
        fits();
        odds();
        hope();
    }

    private static void seedAndYear() {
        Doc.section("promise 16");
        Doc.says("z becomes v: what it was.");
        new Play().due(1, "seed", 0).due(0, "seed", -1).due(-1, "seed", LEAST).due(LEAST, "seed", MOST).due(MOST, "seed", MOST)
            .due(MOST, "seed", -3);
        Doc.section("promise 17");
        Doc.says("A YEAR BY DRAWS: how many are HIDDEN then.");
        new Play().due(0, "year").is(1, "state", 0).due(1, "seed", 1);
        Play.of("lady at 0; lady at 1; lady at 2 seeks; peep 0;").due(2, "year").due(2, "year").is(2, "state", 0);
        Play.of("lady at 0; lady at 1 age 59; peep 0;").due(1, "year");
        for (int finder = 0; finder < 8; finder++) {
            int other = (finder + 1) % 8;
            Play.withFinder(finder, other).due(20, "set", 3, 0).due(7, "year").is(255 & ~(1 << other), "state", 1)
                .is(1, "of", finder, 5);
        }
        // PEEP 99 and one alone: by turns, but for what 99 leaves
        Play p = Play.of("lady at 0; peep 99;");
        int z = 1;
        int hidden = 1;
        for (int i = 0; i < 30; i++) {
            z = z * 1103515245 + 12345;
            z = z * 1103515245 + 12345;
            if ((z >>> 16) % 100 < 99) hidden = 1 - hidden;
            p.due(hidden, "year");
        }
        p.due(z, "seed", 0);
    }

    private static void nights() {
        Doc.section("promise 18");
        Doc.says("NIGHTS (n 1 to 30).");
        new Play().asked(0, "nights", 1).asked(0, "nights", 30);
        Play.of("lady at 0 seeks; peep 0;").asked(0, "nights", 1).asked(0, "nights", 30);
        // one alone that SEEKS: in each night but those that 99 leaves it is HIDDEN
        Play p = Play.of("lady at 0 seeks; peep 99;");
        int z = 1;
        int more = 0;
        for (int n = 1; n <= 30; n++) {
            z = z * 1103515245 + 12345;
            z = z * 1103515245 + 12345;
            if ((z >>> 16) % 100 < 99) more++;
            if (n == 1 || n > 28) p.asked(more, "nights", n);
        }
        Check.holds(Doc.at() + "so many", more > 25);
        Doc.says("BAD.");
        p.badOutside(1, 30, 0, "nights", 1);
    }

    private static void state() {
        Doc.section("promise 19");
        Doc.says("What = 0 YEAR, 1 those HIDDEN, as a set, 2 AGE of all together, 3 FINDS of all together, 4 PLACES AT "
            + "which one is HIDDEN, as a set, 5 COVER of all PLACES together.");
        Play p = new Play();
        int[] none = {0, 0, 0, 0, 0, 36};
        for (int what = 0; what < 6; what++) p.asked(none[what], "state", what);
        Play q = new Play();
        for (int place = 0; place < 12; place++) q.call("cover", place, 9);
        for (int i = 0; i < 8; i++) q.call("person", 5, 99, 0, 4 + i, 0);
        int[] full = {0, 255, 792, 0, 0b111111110000, 108};
        for (int what = 0; what < 6; what++) q.asked(full[what], "state", what);
        for (int place = 0; place < 12; place++) q.call("cover", place, 0);
        q.asked(0, "state", 5).due(0, "seek", 0, 1).due(0, "seek", 7, 1).asked(126, "state", 1).asked(0b011111100000, "state", 4);
        // two AT one PLACE are one PLACE; FINDS of both are told
        Play r = Play.of("child at 3 wit 9 seeks; child at 4; child at 10 wit 9 seeks; child at 11; lady at 4 wit 9;")
            .due(3, "years", 1);
        r.asked(1, "state", 0).asked(0b10101, "state", 1).asked(5, "state", 2).asked(2, "state", 3)
            .asked(1 << 4 | 1 << 11, "state", 4);
        Doc.says("BAD.");
        r.badOutside(0, 5, 0, "state", 0);
        p.badOutside(0, 5, 0, "state", 0);
    }

    private static void where() {
        Doc.section("promise 20");
        Doc.says("WHERE of one by n (0 to 60).");
        Play p = Play.of("child at 11 seeks; grandson at 0 seeks; scholar at 0 seeks; lady at 7;");
        for (int n : new int[] {0, 1, 2, 59, 60}) {
            p.asked((11 + n) % 12, "where", 0, n);
            if (n < 2) p.asked(3 * n, "where", 1, n).asked((12 - 2 * n) % 12, "where", 2, n).asked(7, "where", 3, n);
        }
        // whatever its number: one that finds stays, one that is found goes from the next YEAR on
        for (int finder = 0; finder < 8; finder++) {
            int other = (finder + 1) % 8;
            Play.withFinder(finder, other).is(4, "where", finder, 2).is(4, "where", other, 1).is(5, "where", other, 2);
        }
        Doc.says("BAD.");
        p.badOutside(0, 3, 0, "where", 0, 0).badOutside(0, 60, 1, "where", 0, 0);
        new Play().asked(-1, "where", 0, 0);
    }

    private static void shownAndAll() {
        Doc.section("promise 21");
        Doc.says("SHOWN.");
        Play p = Play.of("lady at 0; lady at 1 age 59; lady at 2 seeks; child at 4; child at 1 wit 1 seeks;")
            .asked(60, "shown", 0).asked(1, "shown", 1).asked(0, "shown", 2);
        p.asked(3, "shown", 3).asked(0, "shown", 4);
        for (int finder = 0; finder < 8; finder++) Play.withFinder(finder, (finder + 1) % 8).asked(1, "shown", (finder + 1) % 8);
        Doc.says("BAD;");
        p.badOutside(0, 4, 0, "shown", 0);
        new Play().asked(-1, "shown", 0);
        Doc.says("NONE: not by then.");
        Play.of("lady at 0; out 61;").asked(-3, "shown", 0).due(1, "years", 1).asked(60, "shown", 0);
        Doc.section("promise 22");
        Doc.says("ALL.");
        new Play().asked(0, "all");
        Play.of("lady at 0 seeks;").asked(0, "all");
        Play.of("lady at 0; lady at 1 age 99;").asked(60, "all").due(1, "years", 1).asked(59, "all");
        // the finder, HIDDEN behind 1, is old and comes out behind 2, whatever its number; the six SEEK
        for (int finder = 0; finder < 8; finder++) {
            int other = (finder + 1) % 8;
            Play q = Play.withFinder(finder, other).due(0, "age", finder, 99);
            for (int i = 0; i < 8; i++) if (i != other) q.call("seek", i, 1);
            q.asked(2, "all");
        }
        Doc.says("NONE: not by then.");
        Play.of("lady at 0; lady at 1 age 99; out 61;").asked(-3, "all").due(1, "years", 1).asked(60, "all");
    }

    private static void finder() {
        Doc.section("promise 23");
        Doc.says("FINDER of one.");
        Play p = Play.of("child at 3 wit 9 seeks; child at 4; child at 8; child at 6 wit 3 seeks;").asked(0, "finder", 1)
            .asked(3, "finder", 2);
        for (int finder = 0; finder < 8; finder++) Play.withFinder(finder, (finder + 1) % 8)
            .asked(finder, "finder", (finder + 1) % 8);
        // two come in the same YEAR: the lesser number finds it
        Play.of("keeper at 5 wit 9 seeks; child at 3 wit 9 seeks; child at 4;").asked(0, "finder", 2);
        Play.of("child at 4; child at 3 wit 9 seeks; keeper at 5 wit 9 seeks;").asked(1, "finder", 0);
        Doc.says("BAD;");
        p.badOutside(0, 3, 0, "finder", 0);
        new Play().asked(-1, "finder", 0);
        Doc.says("NONE: nobody (also if it SEEKS now, comes out, is not SHOWN by then).");
        p.asked(-3, "finder", 0).asked(-3, "finder", 3);
        Play.of("lady at 4; child at 3 seeks; lady at 5 age 59;").asked(-3, "finder", 0).asked(-3, "finder", 2)
            .due(60, "set", 0, 99).asked(-3, "finder", 0);
        // it comes out in the very YEAR in which one comes that would see it
        Play.of("child at 4 age 59; lady at 5 wit 9 seeks;").asked(1, "shown", 0).asked(-3, "finder", 0);
        // it was found once, but SEEKS since
        Play.of("child at 4; child at 3 wit 9 seeks;").asked(1, "finder", 0).due(1, "years", 1).asked(-3, "finder", 0);
    }

    private static void safeForAndKindFor() {
        Doc.section("promise 24");
        Doc.says("SAFE FOR one.");
        Play.of("lady at 5;").asked(0, "safeFor", 0);
        Play p = Play.of("child at 5; child at 5 wit 9 seeks; out 99;").asked(5, "safeFor", 0).due(5, "bring", 1, 11)
            .asked(11, "safeFor", 0).due(0, "seek", 0, 1).asked(11, "safeFor", 0);
        for (int finder = 0; finder < 8; finder++) Play.withFinder(finder, (finder + 1) % 8)
            .asked(3, "safeFor", (finder + 1) % 8);
        // the one that SEEKS, HIDDEN: with 0 HIDDEN too nobody SEEKS, and all is alike
        p.due(1, "seek", 0, 0).asked(0, "safeFor", 1);
        Doc.says("BAD.");
        p.badOutside(0, 1, 0, "safeFor", 0);
        new Play().asked(-1, "safeFor", 0);
        Doc.section("promise 25");
        Doc.says("KIND FOR one.");
        Play.of("lady at 5;").asked(0, "kindFor", 0);
        Play q = Play.of("child at 4 age 20; child at 3 wit 1 seeks; out 99;").asked(5, "kindFor", 0).due(2, "set", 1, 0)
            .asked(0, "kindFor", 0).due(3, "cover", 4, 5).asked(0, "kindFor", 0);
        q.asked(0, "kindFor", 1);
        for (int finder = 0; finder < 8; finder++) Play.withFinder(finder, (finder + 1) % 8).due(2, "set", 1, 9)
            .asked(5, "kindFor", (finder + 1) % 8);
        Doc.says("BAD.");
        q.badOutside(0, 1, 0, "kindFor", 0);
        new Play().asked(-1, "kindFor", 0);
    }

    private static void witFor() {
        Doc.section("promise 26");
        Doc.says("WIT FOR one, n (1 to 20).");
        // 1 comes to 4 behind 1, 13 YEARS; it sees 3 to 12, COVER is 1
        for (int wit = 0; wit < 8; wit++) {
            Play p = new Play().due(0, "person", 0, 0, 9, 4, 0).due(1, "person", 0, 0, wit, 3, 1).due(3, "cover", 4, 1);
            p.asked(wit + 2, "witFor", 0, 1).asked(8, "witFor", 1, 1).asked(-3, "witFor", 1, 20);
        }
        Play far = Play.of("child at 4; child at 8 wit 3 seeks; cover 4 is 1; out 99;").asked(0, "witFor", 0, 7)
            .asked(5, "witFor", 0, 8);
        Play.of("lady at 4 age 40;").asked(0, "witFor", 0, 19);
        for (int finder = 0; finder < 8; finder++) Play.withFinder(finder, (finder + 1) % 8)
            .asked(9, "witFor", (finder + 1) % 8, 1);
        Doc.says("BAD;");
        far.badOutside(0, 1, 0, "witFor", 0, 1).badOutside(1, 20, 1, "witFor", 0, 1);
        new Play().asked(-1, "witFor", 0, 1);
        Doc.says("NONE: with none.");
        Play.of("lady at 4 age 40;").asked(-3, "witFor", 0, 20);
        Play.of("lady at 4 seeks;").asked(-3, "witFor", 0, 1).asked(-3, "witFor", 0, 20);
        Play.of("child at 4; keeper at 5 wit 9 seeks;").asked(-3, "witFor", 0, 1);
    }

    private static void needed() {
        Doc.section("promise 27");
        Doc.says("NEEDED for one.");
        Play p = Play.of("child at 3 wit 9 seeks; child at 4; child at 9; child at 6 wit 3 seeks; out 99;").asked(0, "needed", 1)
            .asked(3, "needed", 2);
        for (int finder = 0; finder < 8; finder++) Play.withFinder(finder, (finder + 1) % 8)
            .asked(finder, "needed", (finder + 1) % 8);
        Doc.says("BAD;");
        p.badOutside(0, 3, 0, "needed", 0);
        new Play().asked(-1, "needed", 0);
        Doc.says("NONE: nobody is.");
        p.asked(-3, "needed", 0);
        Play.of("lady at 4;").asked(-3, "needed", 0);
        Play.of("lady at 4; out 99;").asked(-3, "needed", 0);
        Play.of("child at 4; child at 3 wit 9 seeks; keeper at 5 wit 9 seeks;").asked(-3, "needed", 0);
    }

    private static void fewest() {
        Doc.section("promise 28");
        Doc.says("FEWEST for one, n (1 to 20).");
        Play p = Play.of("child at 4; child at 8 wit 9 seeks; lady at 6 age 40;").asked(2, "fewest", 0, 8)
            .asked(2, "fewest", 0, 20).asked(0, "fewest", 1, 1).asked(0, "fewest", 2, 20);
        for (int finder = 0; finder < 8; finder++) Play.withFinder(finder, (finder + 1) % 8)
            .asked(1 << finder, "fewest", (finder + 1) % 8, 1);
        Doc.says("BAD;");
        p.badOutside(0, 2, 0, "fewest", 0, 1).badOutside(1, 20, 1, "fewest", 0, 1);
        new Play().asked(-1, "fewest", 0, 1);
        Doc.says("NONE: by no set.");
        p.asked(-3, "fewest", 0, 7).asked(-3, "fewest", 2, 19);
        Play.of("lady at 1;".repeat(8)).asked(-3, "fewest", 7, 20);
    }

    private static void round() {
        Doc.section("promise 29");
        Doc.says("ROUND from a PLACE.");
        for (int place = 0; place < 12; place++) {
            new Play().asked(0, "round", place);
            Play.of("lady at " + place + ";").asked(0, "round", place).asked(1, "round", (place + 1) % 12)
                .asked(1, "round", (place + 11) % 12).asked(6, "round", (place + 6) % 12);
        }
        Doc.says("BAD.");
        Play.of("lady at 3;").badOutside(0, 11, 0, "round", 0);
        new Play().badOutside(0, 11, 0, "round", 0);
    }

    private static void fits() {
        Doc.section("promise 30");
        Doc.says("FITS: what = 0 how many WITS, 1 the least.");
        // 1 sees 12 and comes to 4 behind 1 YEAR: all but WIT 9 are found (3 + 9 is not less)
        Play p = Play.of("child at 4; child at 3 wit 9 seeks; out 99;").due(1, "sheet", 0, 0, 2).due(1, "put", 0, 0, 4)
            .due(1, "put", 0, 1, 4);
        p.asked(1, "fits", 0, 0, 0).asked(9, "fits", 0, 0, 1).due(1, "put", 0, 1, 5).asked(9, "fits", 0, 0, 0)
            .asked(0, "fits", 0, 0, 1);
        p.due(1, "sheet", 3, 3, 0).asked(10, "fits", 3, 0, 0).asked(0, "fits", 3, 0, 1).asked(10, "fits", 3, 1, 0);
        for (int finder = 0; finder < 8; finder++) {
            Play q = Play.withFinder(finder, (finder + 1) % 8).due(1, "sheet", 0, 2, 2).due(1, "put", 0, 0, 4)
                .due(1, "put", 0, 1, 5);
            q.asked(9, "fits", 0, (finder + 1) % 8, 0).asked(0, "fits", 0, (finder + 1) % 8, 1);
        }
        Doc.says("BAD: no such SHEET, one, what;");
        p.badOutside(0, 3, 0, "fits", 0, 0, 0).badOutside(0, 1, 1, "fits", 0, 0, 0).badOutside(0, 1, 2, "fits", 0, 0, 0)
            .asked(-1, "fits", 1, 2, 0).asked(-1, "fits", 1, 0, 2);
        new Play().due(1, "sheet", 0, 0, 0).asked(-1, "fits", 0, 0, 0);
        Doc.says("-11;");
        p.asked(-11, "fits", 1, 0, 0).asked(-11, "fits", 2, 0, 1).due(1, "sheet", 0, -1, 0).asked(-11, "fits", 0, 0, 1);
        Doc.says("NONE (what 1): none.");
        p.due(1, "sheet", 0, 2, 1).asked(-3, "fits", 0, 0, 1).asked(0, "fits", 0, 0, 0);
    }

    private static void odds() {
        Doc.section("promise 31");
        Doc.says("ODDS by n (0 to 8), k (0 to n): a part of them.");
        Play p = Play.of("peep 50;");
        int[] above = {1, 1, 7, 7, 35, 7, 7, 1, 1};
        int[] below = {256, 32, 64, 32, 128, 32, 64, 32, 256};
        for (int k = 0; k <= 8; k++) p.asked(above[k], "odds", 8, k, 0).asked(below[k], "odds", 8, k, 1);
        p.asked(1, "odds", 0, 0, 0).asked(1, "odds", 0, 0, 1).asked(1, "odds", 1, 0, 0).asked(2, "odds", 1, 1, 1);
        // 8 times 7 by 2 times 1, and 33 and 67 of a hundred: no common divisor but 4
        Play.of("peep 33;").asked(7L * 33 * 33 * 67 * 67 * 67 * 67 * 67 * 67, "odds", 8, 2, 0)
            .asked(10000000000000000L / 4, "odds", 8, 2, 1);
        Doc.says("BAD.");
        for (int n = 0; n <= 8; n++) p.badOutside(0, n, 1, "odds", n, 0, 0);
        p.badOutside(0, 8, 0, "odds", 0, 0, 0).badOutside(0, 1, 2, "odds", 8, 8, 0).asked(-1, "odds", 9, 9, 0)
            .asked(-1, "odds", -1, -1, 0);
    }

    private static void hope() {
        Doc.section("promise 32");
        Doc.says("HOPE by n (0 to 99): a part of it.");
        Play p = new Play().asked(0, "hope", 0, 0).asked(1, "hope", 0, 1).asked(1, "hope", 1, 0).asked(5, "hope", 1, 1)
            .asked(99, "hope", 99, 0).asked(5, "hope", 99, 1);
        p.asked(19, "hope", 95, 0).asked(1, "hope", 95, 1);
        Doc.says("BAD.");
        p.badOutside(0, 99, 0, "hope", 0, 0).badOutside(0, 1, 1, "hope", 99, 0);
    }
}
