/** Terms 1: LAWS, PLACES, PEOPLE, and what those of each KIND do. */
final class ParkEdges {
    private static final int HIDES = 0, SEES = 1, STRIDES = 2;

    private ParkEdges() {
    }

    static void run() {
        Doc.section("terms 1");
        law("LAWS: 0 OUT (0 to 99; 60 at first),", 0, 99, 60);
        law("1 DARK (0 to 9; 2),", 1, 9, 2);
        law("2 LAMP (0 to 9; 1),", 2, 9, 1);
        law("3 PEEP (0 to 99 of a hundred; 20).", 3, 99, 20);
        places();
        people();
        kinds();
        partsOfOne();
        hides();
        sees();
        strides();
    }

    private static void law(String quote, int law, int most, int first) {
        Doc.says(quote);
        Play p = new Play().asked(first, "lawOf", law);
        p.due(first, "set", law, 0).asked(0, "lawOf", law).badOutside(0, most, 1, "set", law, 1);
        p.due(0, "set", law, most).asked(most, "lawOf", law).badOutside(0, most, 1, "set", law, 1);
        int[] all = {60, 2, 1, 20};
        for (int other = 0; other < 4; other++) if (other != law) p.is(all[other], "lawOf", other);
        p.due(0, "park").asked(first, "lawOf", law);
    }

    private static void places() {
        Doc.says("YEAR (0 at first).");
        new Play().asked(0, "state", 0).due(0, "years", 1).asked(1, "state", 0).due(0, "park").asked(0, "state", 0);
        Doc.says("PLACES 0 to 11 round (behind 11 comes 0),");
        Play p = new Play().badOutside(0, 11, 0, "place", 0, 0).badOutside(0, 11, 0, "cover", 0, 1)
            .badOutside(0, 11, 0, "round", 0);
        p.badOutside(0, 11, 3, "person", 0, 0, 0, 0, 0).due(0, "person", 0, 0, 0, 11, 1).due(1, "person", 2, 0, 0, 0, 1);
        p.badOutside(0, 11, 1, "bring", 0, 0).due(0, "years", 1).one(0, 0, 1, 0, 0, 0, 0).one(1, 2, 1, 0, 11, 0, 0);
        p.due(0, "bring", 0, 11).due(11, "bring", 0, 0);
        Play.of("lady at 11;").asked(1, "round", 0).asked(2, "round", 1);
        Play.of("lady at 0;").asked(1, "round", 11).asked(2, "round", 10);
        Doc.says("each with COVER (0 to 9; 3 at first).");
        Play q = new Play();
        for (int place = 0; place < 12; place++) q.is(3, "place", place, 0).due(3, "cover", place, place % 10);
        for (int place = 0; place < 12; place++) q.is(place % 10, "place", place, 0).due(place % 10, "cover", place, 9);
        for (int place = 0; place < 12; place++) q.due(9, "cover", place, 0);
        for (int place = 0; place < 12; place += 11) q.badOutside(0, 9, 1, "cover", place, 1);
    }

    private static void people() {
        Doc.says("PEOPLE, 8 at most, numbered as they come,");
        Play p = new Play();
        for (int i = 0; i < 8; i++) p.asked(-1, "of", i, 0).due(i, "person", i % 6, 10 + i, i, i, i % 2).asked(i + 1, "many", 0);
        p.asked(-2, "person", 0, 0, 0, 0, 0).asked(-1, "of", 8, 0);
        for (int i = 0; i < 8; i++) p.one(i, i % 6, 10 + i, i, i, 1 - i % 2, 0);
        Play.of("lady at 1;".repeat(8)).asked(8, "many", 0).asked(-2, "person", 0, 0, 0, 0, 0);
        Play.of("lady at 1;".repeat(7)).due(7, "person", 0, 0, 0, 0, 0).asked(-2, "person", 0, 0, 0, 0, 0);
    }

    private static void kinds() {
        Doc.says("each of a KIND: 0 child; 1 widower, 2 keeper, 5 lady (under child); 3 grandson (under widower); 4 "
            + "scholar (under keeper);");
        String[] names = {"child", "widower", "keeper", "grandson", "scholar", "lady"};
        int[] under = {-1, 0, 0, 1, 2, 0};
        for (int kind = 0; kind < 6; kind++) {
            Play p = Play.of(names[kind] + " at 0;").is(kind, "of", 0, 0).due(1, "shelf", 0, 0, 0);
            for (int as = 0; as < 6; as++) {
                boolean is = false;
                for (int k = kind; k >= 0; k = under[k]) is |= k == as;
                p.asked(is ? 0 : -13, "taken", 0, as);
            }
        }
        new Play().badOutside(0, 5, 0, "person", 0, 0, 0, 0, 0).due(0, "person", 5, 0, 0, 0, 0)
            .badOutside(0, 5, 1, "mind", 0, 0, 0);
    }

    private static void partsOfOne() {
        Doc.says("with AGE (0 to 99),");
        Play p = new Play().badOutside(0, 99, 1, "person", 0, 0, 0, 0, 0).due(0, "person", 0, 0, 0, 0, 0)
            .due(1, "person", 0, 99, 0, 0, 0);
        p.is(0, "of", 0, 1).is(99, "of", 1, 1).badOutside(0, 99, 1, "age", 0, 0).due(0, "age", 0, 99).due(99, "age", 1, 0);
        p.is(99, "of", 0, 1).is(0, "of", 1, 1);
        Doc.says("WIT (0 to 9),");
        Play q = new Play().badOutside(0, 9, 2, "person", 0, 0, 0, 0, 0).due(0, "person", 0, 0, 0, 0, 0)
            .due(1, "person", 0, 0, 9, 0, 0);
        q.is(0, "of", 0, 2).is(9, "of", 1, 2).badOutside(0, 9, 2, "mind", 0, 0, 0).due(0, "mind", 0, 0, 9)
            .due(0, "mind", 1, 0, 0);
        q.is(9, "of", 0, 2).is(0, "of", 1, 2);
        Doc.says("AT a PLACE;");
        Play r = new Play().due(0, "person", 0, 0, 0, 0, 0).due(1, "person", 0, 0, 0, 11, 0).is(0, "of", 0, 3).is(11, "of", 1, 3);
        r.is(1, "place", 0, 1).is(2, "place", 11, 1);
        Doc.says("it is HIDDEN, or SEEKS;");
        Play s = new Play().badOutside(0, 1, 4, "person", 0, 0, 0, 0, 0).due(0, "person", 0, 0, 0, 0, 0)
            .due(1, "person", 0, 0, 0, 0, 1);
        s.is(1, "of", 0, 4).is(0, "of", 1, 4).badOutside(0, 1, 1, "seek", 0, 0).due(0, "seek", 0, 1).due(1, "seek", 1, 0);
        s.is(0, "of", 0, 4).is(1, "of", 1, 4);
        Doc.says("FINDS: how many it found (0 to 99; 0 at first).");
        s.is(0, "of", 0, 5).is(0, "of", 1, 5);
        findsUpTo(99);
    }

    /** Two ladies AT one PLACE find each other by turns, in even YEARS: each of them once in four YEARS. */
    private static void findsUpTo(int most) {
        Play p = Play.of("lady at 0 seeks; lady at 0; cover 0 is 0; dark 0; out 99;");
        for (int found = 15; found <= 90; found += 15) {
            p.due(1, "years", 60).is(found, "of", 0, 5).is(found, "of", 1, 5).due(60, "age", 0, 0).due(60, "age", 1, 0);
        }
        p.due(1, "years", 32).is(98, "of", 0, 5).is(98, "of", 1, 5);
        p.due(1, "years", 1).is(99, "of", 0, 5).is(98, "of", 1, 5).is(1, "state", 1);
        p.due(1, "years", 2).is(99, "of", 0, 5).is(99, "of", 1, 5).is(2, "state", 1);
        // the most stays, and still one finds the other
        p.due(1, "years", 2).is(most, "of", 0, 5).is(most, "of", 1, 5).is(1, "state", 1);
        p.due(1, "years", 2).is(most, "of", 0, 5).is(most, "of", 1, 5).is(2, "state", 1).is(2 * most, "state", 3);
    }

    /** does(0, what) of one of a KIND AT 0 with that COVER, WIT and AGE, 1000 less. */
    private static void does(int what, int want, int kind, int cover, int wit, int age) {
        Play p = new Play();
        p.call("cover", 0, cover);
        p.call("person", kind, age, wit, 0, 0);
        p.asked(1000 + want, "does", 0, what);
        p.call("seek", 0, 1);
        p.is(1000 + want, "does", 0, what);
    }

    private static void hides() {
        Doc.says("HIDES: child: COVER of the PLACE AT which it is, and WIT.");
        does(HIDES, 0, 0, 0, 0, 0);
        does(HIDES, 18, 0, 9, 9, 99);
        Play p = Play.of("child at 11 wit 1; cover 11 is 7; cover 0 is 2;").is(1008, "does", 0, 0).due(11, "bring", 0, 0);
        p.is(1003, "does", 0, 0);
        Doc.says("widower: half of as child.");
        int[][] halves = {{0, 0, 0}, {0, 0, 1}, {1, 0, 2}, {1, 1, 2}, {8, 9, 8}, {9, 9, 9}};
        for (int[] h : halves) does(HIDES, h[0], 1, h[1], h[2], 99);
        Doc.says("grandson: as widower, and 2.");
        for (int[] h : halves) does(HIDES, h[0] + 2, 3, h[1], h[2], 99);
        Doc.says("keeper: as child, less 3 (so it may be below 0).");
        int[][] less = {{-3, 0, 0}, {-1, 2, 0}, {0, 0, 3}, {1, 3, 1}, {15, 9, 9}};
        for (int[] k : less) does(HIDES, k[0], 2, k[1], k[2], 99);
        Doc.says("scholar: as keeper, and a tenth of AGE (cut).");
        int[][] tenths = {{0, 0}, {9, 0}, {10, 1}, {19, 1}, {20, 2}, {99, 9}};
        for (int[] t : tenths) {
            for (int[] k : less) does(HIDES, k[0] + t[1], 4, k[1], k[2], t[0]);
        }
        Doc.says("lady: as child, and DARK.");
        does(HIDES, 2, 5, 0, 0, 99);
        Play q = Play.of("lady at 0 wit 9; child at 0 wit 9; cover 0 is 9; dark 9;").is(1027, "does", 0, 0)
            .is(1018, "does", 1, 0);
        q.due(9, "set", 1, 0).is(1018, "does", 0, 0);
    }

    private static void sees() {
        Doc.says("SEES: child: 3, and WIT.");
        does(SEES, 3, 0, 9, 0, 99);
        does(SEES, 12, 0, 9, 9, 99);
        Doc.says("widower: as child, and LAMP.");
        does(SEES, 4, 1, 9, 0, 99);
        Play.of("widower at 0 wit 9; lamp 9;").is(1021, "does", 0, 1).due(9, "set", 2, 0).is(1012, "does", 0, 1);
        Doc.says("grandson: as widower, twice that.");
        does(SEES, 8, 3, 9, 0, 99);
        Play.of("grandson at 0 wit 9; lamp 9;").is(1042, "does", 0, 1).due(9, "set", 2, 0).is(1024, "does", 0, 1);
        Doc.says("keeper: as child, and 4.");
        does(SEES, 7, 2, 9, 0, 99);
        does(SEES, 16, 2, 9, 9, 99);
        Doc.says("scholar: as keeper, less DARK.");
        does(SEES, 5, 4, 9, 0, 99);
        Play p = Play.of("scholar at 0; dark 9;").is(998, "does", 0, 1).due(9, "set", 1, 7).is(1000, "does", 0, 1);
        p.due(7, "set", 1, 0).due(4, "mind", 0, 4, 9).is(1016, "does", 0, 1);
        Doc.says("lady: as child, in even YEARS; else 0.");
        Play q = Play.of("lady at 0; lady at 0 wit 9;").is(1003, "does", 0, 1).is(1012, "does", 1, 1);
        q.due(2, "years", 1).is(1000, "does", 0, 1).is(1000, "does", 1, 1).due(2, "years", 1).is(1003, "does", 0, 1);
        q.due(0, "years", 59).is(1000, "does", 1, 1).due(0, "years", 59).is(1012, "does", 1, 1);
    }

    private static void strides() {
        String[] quotes = {"STRIDES: child: 1.", "widower: as child, and 1.", "keeper: as child, less 2 (so it goes back).",
            "grandson: as widower, and 1.", "scholar: as keeper, twice that.", "lady: 0."};
        int[] strides = {1, 2, -1, 3, -2, 0};
        for (int kind : new int[] {0, 1, 3, 2, 4, 5}) {
            Doc.says(quotes[kind]);
            does(STRIDES, strides[kind], kind, 9, 9, 99);
            for (int from = 0; from < 12; from++) {
                Play p = new Play().due(0, "person", kind, 0, 0, from, 1);
                for (int n = 1; n <= 13; n++) p.is(Math.floorMod(from + n * strides[kind], 12), "where", 0, n);
            }
        }
    }
}
