/** Promises 1 to 15, sentence by sentence. */
final class Promises1To15 {
    private Promises1To15() {
    }

    static void run() {
        newObject();
        feed();
        park();
        setAndLawOf();
        person();
        of();
        does();
        mind();
        age();
        bring();
        seek();
        place();
        cover();
        years();
    }

    private static void newObject() {
        Doc.section("promise 1");
        Doc.says("No PEOPLE;");
        Play p = new Play().asked(0, "many", 0).asked(-1, "of", 0, 0).asked(0, "state", 1).asked(0, "state", 2).asked(0, "all")
            .asked(0, "round", 0);
        for (int what = 0; what < 7; what++) p.is(0, "many", what);
        p.due(0, "person", 0, 0, 0, 0, 0);
        Doc.says("nothing is kept.");
        new Play().asked(-3, "again").due(0, "years", 1).asked(-3, "again");
        // one object knows nothing of another
        Play other = Play.of("lady at 0;").due(1, "keep");
        new Play().asked(-3, "again").asked(0, "many", 0);
        other.due(1, "again");
    }

    private static void feed() {
        Doc.section("promise 2");
        Doc.says("n bytes (1 to 8) come to THE TAPE, the lowest of eight first: how many it has.");
        long eight = 0;
        for (int i = 7; i >= 0; i--) eight = eight << 8 | "peep 34;".charAt(i);
        new Play().due(8, "feed", eight, 8).due(0, "park").is(34, "lawOf", 3);
        // the lowest n alone; the next bytes come behind them
        Play p = new Play();
        for (int i = 1; i <= 8; i++) p.due(i, "feed", "peep 56;".charAt(i - 1) | -1L << 8, 1).is(i, "many", 5);
        p.due(0, "park").is(56, "lawOf", 3);
        for (int n = 1; n <= 8; n++) {
            new Play().due(n, "feed", 0x2020202020202020L, n).due(2 * n, "feed", 0x2020202020202020L, n).due(0, "park")
                .due(n, "feed", eight, n).asked(n, "many", 5);
            // a byte that is not as told is seen where it came to
            new Play().due(n, "feed", 0x2020202020202020L, n).due(n + 1, "feed", 0x7aL, 1).due(-100 - n, "park");
        }
        // the highest byte, with the sign of eight
        new Play().due(8, "feed", 0xff20202020202020L, 8).due(-107, "park");
        new Play().due(8, "feed", Long.MIN_VALUE | 0x20202020202020L, 8).due(-107, "park");
        Doc.says("BAD;");
        new Play().badOutside(1, 8, 1, "feed", 32, 1);
        Doc.says("FULL: more than 200.");
        for (int n = 1; n <= 8; n++) {
            Play q = new Play().feed(" ".repeat(200 - n));
            for (int more = n + 1; more <= 8; more++) q.asked(-2, "feed", 0x2020202020202020L, more);
            q.due(200, "feed", 0x2020202020202020L, n).asked(-2, "feed", 32, 1);
        }
    }

    private static void park() {
        Doc.section("promise 3");
        Doc.says("THE TAPE becomes all: how many PEOPLE;");
        new Play().due(0, "park");
        for (int n = 0; n <= 8; n++) new Play().feed("lady at 1;".repeat(n) + "out 3;").due(n, "park").is(n, "many", 0)
            .is(3, "lawOf", 0);
        // SHEETS, SHELVES, THE TRACE and what is kept are not told in a TEXT
        Play p = TermsEdges.rich().due(1, "park").is(-7, "item", 0, 0, 4).is(5, "taken", 1, 10).is(3, "many", 6)
            .is(20, "trace", 0).due(3, "again");
        p.is(1, "taken", 0, 1);
        Doc.says("-100 less its FAULT.");
        new Play().faulty("x", 0).faulty(" ".repeat(199) + "x", 199).faulty(" ".repeat(196) + "lady", 200).faulty("lady", 4);
        TermsEdges.rich().due(1, "park").faulty("out 1; lady at 0; cover 0 is 0; x", 32);
        Doc.says("There are no ROWS then.");
        Play q = Play.of("lady at 1;").due(10, "prove", 0, 10).due(0, "park").is(0, "many", 4).asked(-9, "row", 0, 0)
            .asked(-9, "alterRow", 0, 0, 1);
        q.feed("lady at 1;").due(1, "park").due(2, "prove", 0, 2).faulty("x", 0).is(2, "many", 4).is(1, "row", 1, 0);
    }

    private static void setAndLawOf() {
        Doc.section("promise 4");
        Doc.says("A LAW becomes v: what it was.");
        int[] first = {60, 2, 1, 20};
        int[] most = {99, 9, 9, 99};
        Play p = new Play();
        for (int law = 0; law < 4; law++) p.due(first[law], "set", law, most[law]).due(most[law], "set", law, most[law])
            .due(most[law], "set", law, 0).due(0, "set", law, law);
        for (int law = 0; law < 4; law++) p.is(law, "lawOf", law);
        // what it was may be 0, and the LAW counts from then on
        Play.of("lady at 0; lady at 0 age 5;").due(60, "set", 0, 6).due(1, "years", 1).is(1, "state", 1);
        Doc.says("BAD.");
        Play q = new Play().badOutside(0, 3, 0, "set", 0, 1);
        for (int law = 0; law < 4; law++) q.badOutside(0, most[law], 1, "set", law, 1);
        Doc.section("promise 5");
        Doc.says("A LAW.");
        Play r = new Play();
        for (int law = 0; law < 4; law++) r.asked(first[law], "lawOf", law);
        for (int law = 0; law < 4; law++) r.due(first[law], "set", law, 9 - law).asked(9 - law, "lawOf", law);
        Doc.says("BAD.");
        r.badOutside(0, 3, 0, "lawOf", 0);
    }

    private static void person() {
        Doc.section("promise 6");
        Doc.says("One more, AT a PLACE, HIDDEN (seeks 0), or it SEEKS (1): its number.");
        Play p = new Play();
        for (int i = 0; i < 8; i++) p.due(i, "person", i % 6, 99 - i, 9 - i, 11 - i, i % 2);
        for (int i = 0; i < 8; i++) p.one(i, i % 6, 99 - i, 9 - i, 11 - i, 1 - i % 2, 0);
        p.is(0b01010101, "state", 1);
        Play.of("lady at 0; lady at 0;").due(2, "person", 0, 0, 0, 0, 0).due(3, "person", 5, 99, 9, 11, 1);
        Doc.says("BAD;");
        int[] most = {5, 99, 9, 11, 1};
        Play q = new Play().due(0, "person", 1, 1, 1, 1, 1);
        for (int part = 0; part < 5; part++) q.badOutside(0, most[part], part, "person", 1, 1, 1, 1, 1);
        for (int part = 0; part < 5; part++) p.badOutside(0, most[part], part, "person", 1, 1, 1, 1, 1);
        Doc.says("FULL.");
        p.asked(-2, "person", 0, 0, 0, 0, 0).asked(-2, "person", 5, 99, 9, 11, 1);
        Play.of("lady at 0;".repeat(7)).due(7, "person", 0, 0, 0, 0, 0).asked(-2, "person", 0, 0, 0, 0, 0).due(0, "park")
            .due(0, "person", 0, 0, 0, 0, 0);
    }

    private static void of() {
        Doc.section("promise 7");
        Doc.says("Of one: what = 0 KIND, 1 AGE, 2 WIT, 3 AT, 4 1 if it is HIDDEN, else 0, 5 FINDS.");
        Play p = Play.of("lady at 11 age 99 wit 9; child at 0; scholar at 6 age 42 wit 7 seeks;").one(0, 5, 99, 9, 11, 1, 0)
            .one(1, 0, 0, 0, 0, 1, 0).one(2, 4, 42, 7, 6, 0, 0);
        for (int what = 0; what < 6; what++) p.asked(new int[] {4, 42, 7, 6, 0, 0}[what], "of", 2, what);
        Play.of("child at 3 wit 9 seeks; child at 4;").due(1, "years", 1).asked(1, "of", 0, 5).asked(0, "of", 1, 5);
        Doc.says("BAD.");
        p.badOutside(0, 2, 0, "of", 0, 0).badOutside(0, 5, 1, "of", 0, 0).badOutside(0, 5, 1, "of", 2, 0);
        new Play().asked(-1, "of", 0, 0).asked(-1, "of", -1, 0);
    }

    private static void does() {
        Doc.section("promise 8");
        Doc.says("1000, and what one HIDES (what 0), SEES (1), STRIDES (2) now (whether it is HIDDEN or not).");
        int[][] hidden = {{1005, 1005, 1001}, {1002, 1006, 1002}, {1002, 1009, 999}, {1004, 1012, 1003}, {1005, 1007, 998}, {1007, 1005, 1000}};
        for (int kind = 0; kind < 6; kind++) {
            for (int seeks = 0; seeks < 2; seeks++) {
                Play p = new Play().due(0, "person", kind, 30, 2, 5, seeks);
                for (int what = 0; what < 3; what++) p.asked(hidden[kind][what], "does", 0, what);
            }
        }
        // below 0 is below 1000
        Play.of("keeper at 0; cover 0 is 0;").asked(997, "does", 0, 0).asked(999, "does", 0, 2);
        Play.of("scholar at 0; cover 0 is 0; dark 9;").asked(997, "does", 0, 0).asked(998, "does", 0, 1).asked(998, "does", 0, 2);
        // now: where it is, of what AGE, in which YEAR
        Play q = Play.of("scholar at 0 age 9; lady at 5 seeks; cover 1 is 9;").is(1000, "does", 0, 0).is(1003, "does", 1, 1)
            .due(1, "years", 1).is(1001, "does", 0, 0);
        q.is(1000, "does", 1, 1).due(0, "bring", 0, 1).is(1007, "does", 0, 0);
        Doc.says("BAD.");
        q.badOutside(0, 1, 0, "does", 0, 0).badOutside(0, 2, 1, "does", 0, 0).badOutside(0, 2, 1, "does", 1, 0);
        new Play().asked(-1, "does", 0, 0);
    }

    private static void mind() {
        Doc.section("promise 9");
        Doc.says("One becomes one of another KIND, with another WIT: the KIND that it was.");
        Play p = Play.of("lady at 11 age 99 wit 9 seeks; lady at 3 age 7;").due(5, "mind", 0, 0, 0).one(0, 0, 99, 0, 11, 0, 0)
            .due(0, "mind", 0, 5, 9).one(0, 5, 99, 9, 11, 0, 0);
        p.one(1, 5, 7, 0, 3, 1, 0).due(5, "mind", 1, 5, 0).one(1, 5, 7, 0, 3, 1, 0);
        for (int kind = 0; kind < 6; kind++) p.due(kind == 0 ? 5 : kind - 1, "mind", 1, kind, kind)
            .one(1, kind, 7, kind, 3, 1, 0);
        // FINDS stays
        Play.of("child at 3 wit 9 seeks; child at 4;").due(1, "years", 1).due(0, "mind", 0, 3, 4).one(0, 3, 1, 4, 4, 1, 1);
        Doc.says("BAD.");
        p.badOutside(0, 1, 0, "mind", 0, 0, 0).badOutside(0, 5, 1, "mind", 0, 0, 0).badOutside(0, 9, 2, "mind", 0, 0, 0)
            .badOutside(0, 9, 2, "mind", 1, 5, 0);
    }

    private static void age() {
        Doc.section("promise 10");
        Doc.says("AGE becomes v: what it was.");
        Play p = Play.of("lady at 11 age 99 wit 9 seeks; lady at 3 age 7;").due(99, "age", 0, 0).due(7, "age", 1, 99)
            .one(0, 5, 0, 9, 11, 0, 0).one(1, 5, 99, 0, 3, 1, 0);
        p.due(0, "age", 0, 0).due(0, "age", 0, 98).due(99, "age", 1, 99).is(197, "state", 2);
        Doc.says("BAD.");
        p.badOutside(0, 1, 0, "age", 0, 0).badOutside(0, 99, 1, "age", 0, 0).badOutside(0, 99, 1, "age", 1, 0);
    }

    private static void bring() {
        Doc.section("promise 11");
        Doc.says("It is AT a PLACE from now on: AT which it was.");
        Play p = Play.of("lady at 11 age 99 wit 9 seeks; lady at 3 age 7;").due(11, "bring", 0, 0).due(3, "bring", 1, 11)
            .one(0, 5, 99, 9, 0, 0, 0).one(1, 5, 7, 0, 11, 1, 0);
        p.due(0, "bring", 0, 0).due(0, "bring", 0, 11).due(11, "bring", 1, 11).is(3, "place", 11, 1).is(0, "place", 0, 1)
            .is(1 << 11, "state", 4);
        // from there it goes on
        Play.of("child at 5 seeks;").due(5, "bring", 0, 11).due(0, "years", 1).is(0, "of", 0, 3);
        Doc.says("BAD.");
        p.badOutside(0, 1, 0, "bring", 0, 0).badOutside(0, 11, 1, "bring", 0, 0).badOutside(0, 11, 1, "bring", 1, 0);
    }

    private static void seek() {
        Doc.section("promise 12");
        Doc.says("It SEEKS (v 1), or is HIDDEN (0): 1 if it sought, else 0.");
        Play p = Play.of("lady at 11 age 99 wit 9 seeks; lady at 3 age 7;").due(1, "seek", 0, 1).due(1, "seek", 0, 0)
            .due(0, "seek", 0, 0).one(0, 5, 99, 9, 11, 1, 0);
        p.due(0, "seek", 1, 0).due(0, "seek", 1, 1).due(1, "seek", 1, 1).one(1, 5, 7, 0, 3, 0, 0).is(1, "state", 1);
        // the last of eight, and no other
        Play.of("lady at 0;".repeat(8)).due(0, "seek", 7, 1).is(127, "state", 1).due(1, "seek", 7, 0).is(255, "state", 1)
            .due(0, "seek", 0, 1).is(254, "state", 1);
        Doc.says("BAD.");
        p.badOutside(0, 1, 0, "seek", 0, 0).badOutside(0, 1, 0, "seek", 0, 1).badOutside(0, 1, 1, "seek", 0, 0)
            .badOutside(0, 1, 1, "seek", 1, 0);
    }

    private static void place() {
        Doc.section("promise 13");
        Doc.says("Of a PLACE: what = 0 COVER, 1 who is AT it, as a set, 2 HELD.");
        Play p = Play.of("lady at 11; lady at 0 seeks; lady at 11 seeks; lady at 0 seeks; lady at 11; cover 0 is 0; cover 11 is 9;");
        p.asked(0, "place", 0, 0).asked(0b01010, "place", 0, 1).asked(0, "place", 0, 2).asked(9, "place", 11, 0)
            .asked(0b10101, "place", 11, 1).asked(2, "place", 11, 2);
        p.asked(3, "place", 5, 0).asked(0, "place", 5, 1).asked(0, "place", 5, 2);
        Play.of("lady at 6;".repeat(8)).asked(255, "place", 6, 1).asked(8, "place", 6, 2);
        new Play().asked(0, "place", 0, 1).asked(0, "place", 11, 2);
        Doc.says("BAD.");
        p.badOutside(0, 11, 0, "place", 0, 0).badOutside(0, 2, 1, "place", 0, 0).badOutside(0, 2, 1, "place", 11, 0);
    }

    private static void cover() {
        Doc.section("promise 14");
        Doc.says("COVER of a PLACE becomes v: what it was.");
        Play p = new Play().due(3, "cover", 0, 9).due(9, "cover", 0, 9).due(9, "cover", 0, 0).due(0, "cover", 0, 4)
            .due(3, "cover", 11, 1).is(4, "place", 0, 0).is(1, "place", 11, 0);
        p.is(4 + 1 + 30, "state", 5);
        // HIDES is by it from then on
        Play.of("child at 4;").due(3, "cover", 4, 9).is(1009, "does", 0, 0);
        Doc.says("BAD.");
        p.badOutside(0, 11, 0, "cover", 0, 1).badOutside(0, 9, 1, "cover", 0, 1).badOutside(0, 9, 1, "cover", 11, 1);
    }

    private static void years() {
        Doc.section("promise 15");
        Doc.says("n YEARS (1 to 60): how many are HIDDEN then.");
        new Play().due(0, "years", 1).due(0, "years", 60).is(61, "state", 0);
        Play.of("lady at 0; lady at 1 age 1; lady at 2 seeks;").due(2, "years", 58).due(1, "years", 1).due(0, "years", 1)
            .is(60, "state", 0);
        Play.of("lady at 0; lady at 1;").due(0, "years", 60);
        Play.of("lady at 0; lady at 1; out 61;").due(2, "years", 60);
        Play.of("lady at 0;".repeat(8) + "out 99;").due(8, "years", 1).is(8, "state", 2);
        // one after the other as all at once
        Play one = Play.of("child at 11 seeks;");
        for (int n = 1; n <= 60; n++) one.due(0, "years", 1).is((11 + n) % 12, "of", 0, 3);
        for (int n = 1; n <= 60; n++) Play.of("child at 11 seeks;").due(0, "years", n).is((11 + n) % 12, "of", 0, 3)
            .is(n, "state", 0).is(n, "of", 0, 1);
        Doc.says("BAD.");
        Play.of("child at 11 seeks; lady at 0 age 59;").badOutside(1, 60, 0, "years", 1);
    }
}
