/** Terms 3: ROWS, ACTS, THE TRACE, SHEETS and SHELVES. */
final class ThingEdges {
    private static final int COUNTS = 0, CALLS = 1, PARTS = 2, LOOKS = 3;
    private static final int LEAST = Integer.MIN_VALUE, MOST = Integer.MAX_VALUE;

    private ThingEdges() {
    }

    static void run() {
        Doc.section("terms 3");
        rows();
        reader();
        acts();
        childBodies();
        otherBodies();
        trace();
        sheets();
        shelves();
    }

    private static void rows() {
        Doc.says("ROWS of one: (its PLACE, 1 if it is HIDDEN, else 0, FINDS) behind 1, 2, .. n YEARS, tried.");
        // 0 comes to 0, then to 1, finds 1 there and is HIDDEN
        Play p = Play.of("child at 11 wit 9 seeks; child at 1; out 99;").due(1, "prove", 0, 1).is(0, "row", 0, 0)
            .is(0, "row", 0, 1).is(0, "row", 0, 2);
        p.asked(-9, "row", 1, 0).due(10, "prove", 0, 10);
        int[][] due = {{0, 0, 0}, {1, 1, 1}};
        for (int i = 0; i < 10; i++) {
            for (int what = 0; what < 3; what++) p.is(due[Math.min(i, 1)][what], "row", i, what);
        }
        // tried: all but ROWS stays
        p.is(0, "state", 0).is(11, "of", 0, 3).is(0, "of", 0, 5);
        // FINDS goes on from what it is now
        p.due(1, "years", 2).due(1, "prove", 0, 1).is(1, "row", 0, 2);
    }

    private static void reader() {
        Doc.says("THE READER takes ROWS as those of one, from how it is now: right is one that is as it must be.");
        Play p = Play.of("child at 11 seeks; child at 11 seeks; lady at 1;").asked(0, "judge", 0).due(10, "prove", 0, 10);
        p.asked(0, "judge", 0).asked(0, "judge", 1).asked(1, "judge", 2);
        int[] was = {9, 0, 0};
        for (int what = 0; what < 3; what++) p.due(was[what], "alterRow", 9, what, was[what] + 1).asked(10, "judge", 0)
            .due(was[what] + 1, "alterRow", 9, what, was[what]);
        // a PLACE is one of 0 to 11, not that number round
        p.due(0, "alterRow", 0, 0, 12).asked(1, "judge", 0).due(12, "alterRow", 0, 0, 0).asked(0, "judge", 0);
        p.due(0, "alterRow", 4, 1, -1).asked(5, "judge", 0).due(-1, "alterRow", 4, 1, 0);
        // from how it is now: a YEAR later they are not right, and back where it was they are
        p.due(1, "years", 1).asked(1, "judge", 0).due(0, "bring", 0, 11).asked(0, "judge", 0);
    }

    /** One of that KIND, number 1, with that WIT, on SHELF 3. */
    private static Play thing(int kind, int wit) {
        Play p = new Play().due(0, "person", 5, 0, 0, 0, 0);
        p.call("person", kind, 0, wit, 0, 0);
        p.call("shelf", 3, 0, 1);
        return p;
    }

    private static void acts() {
        Doc.says("ACTS of things, with a number x (ints that wrap): 0 counts, 1 calls, 2 parts, 3 looks.");
        Play p = thing(0, 4).due(5, "act", 3, COUNTS, 7).traced(10).due(6, "act", 3, CALLS, 7).traced(11, 10)
            .due(2, "act", 3, PARTS, 7).traced(12);
        p.due(6 ^ 12, "act", 3, LOOKS, 7).traced(13, 11, 10).due(0, "act", 3, -1, 7).due(0, "act", 3, 4, 7);
        p.due(MOST - 1, "act", 3, COUNTS, LEAST).due(MOST, "act", 3, COUNTS, LEAST + 1).due(LEAST, "act", 3, COUNTS, LEAST + 2);
        p.due((MOST - 2) * 2 - 4, "act", 3, CALLS, MOST).due((LEAST - 2) * 2 - 4, "act", 3, CALLS, LEAST)
            .due(((LEAST - 2) * 2 - 4) ^ 12, "act", 3, LOOKS, LEAST);
        Doc.says("One of PEOPLE is held as a thing of the KIND; n: the number, a: WIT.");
        // number 0 and number 7, WIT 0 and 9
        Play q = new Play();
        for (int i = 0; i < 8; i++) q.call("person", 0, 0, i < 7 ? 0 : 9, 0, 0);
        q.due(1, "shelf", 0, 0, 0).due(1, "shelf", 1, 0, 7).due(7, "act", 0, COUNTS, 7).due(14, "act", 0, CALLS, 7)
            .due(-7, "act", 1, COUNTS, 7).due(-23, "act", 1, CALLS, 7);
        // as it is at the time
        q.due(0, "mind", 7, 1, 8).due(-17, "act", 1, CALLS, 7).traced(20, 11, 10);
    }

    private static void childBodies() {
        Doc.says("BODIES, each with its number: child: 10 counts: x - n * 2.");
        thing(0, 9).due(-2, "act", 3, COUNTS, 0).traced(10).due(0, "act", 3, COUNTS, 2).due(-1 - 2, "act", 3, COUNTS, -1)
            .due(MOST, "act", 3, COUNTS, LEAST + 1);
        Doc.says("11 calls: counts(x) * 2 - a.");
        thing(0, 9).due(-13, "act", 3, CALLS, 0).traced(11, 10).due(-5, "act", 3, CALLS, 4);
        Doc.says("12 parts: x by (a - n), cut");
        thing(0, 3).due(3, "act", 3, PARTS, 7).traced(12).due(-3, "act", 3, PARTS, -7).due(0, "act", 3, PARTS, 0)
            .due(LEAST / 2, "act", 3, PARTS, LEAST);
        // WIT 0 less 1: by -1, where the least number stays itself
        thing(0, 0).due(-7, "act", 3, PARTS, 7).due(LEAST, "act", 3, PARTS, LEAST).due(-MOST, "act", 3, PARTS, MOST);
        thing(0, 2).due(LEAST, "act", 3, PARTS, LEAST).due(MOST, "act", 3, PARTS, MOST);
        Doc.says("(-15 if these are the same; that is all that act() answers then).");
        for (int kind = 0; kind < 6; kind++) thing(kind, 1).due(-15, "act", 3, PARTS, 7).due(-15, "act", 3, PARTS, 0)
            .due(-15, "act", 3, PARTS, -15);
        for (int kind : new int[] {2, 4}) thing(kind, 1).due(-15, "act", 3, LOOKS, 7).due(-15, "act", 3, LOOKS, LEAST);
        // those that part nothing act on, and behind -15 one acts again
        for (int kind : new int[] {0, 1, 3, 5}) {
            Play p = thing(kind, 1);
            p.call("act", 3, LOOKS, 7);
            long looks = p.call("act", 3, LOOKS, 7);
            Check.holds(Doc.at() + "KIND " + kind + " looks", looks != -15);
            p.due(-15, "act", 3, PARTS, 7).due(looks, "act", 3, LOOKS, 7);
        }
        Play zero = Play.of("child at 0;").due(1, "shelf", 0, 0, 0).due(-15, "act", 0, PARTS, 7).due(0, "mind", 0, 0, 1)
            .due(7, "act", 0, PARTS, 7);
        zero.traced(12);
        Doc.says("13 looks: calls(x) ^ 12.");
        thing(0, 9).due(-13 ^ 12, "act", 3, LOOKS, 0).traced(13, 11, 10).due(11 ^ 12, "act", 3, LOOKS, 12);
    }

    private static void otherBodies() {
        Doc.says("widower: 20 calls: super.calls(x) + 5.");
        thing(1, 9).due(-8, "act", 3, CALLS, 0).traced(20, 11, 10).due(-8 ^ 12, "act", 3, LOOKS, 0).traced(13, 20, 11, 10);
        thing(1, 9).due(-2, "act", 3, COUNTS, 0).traced(10).due(0, "act", 3, PARTS, 7).traced(12);
        Doc.says("keeper: 30 counts: super.counts(x) ^ 3.");
        thing(2, 9).due(-2 ^ 3, "act", 3, COUNTS, 0).traced(30, 10).due((-2 ^ 3) * 2 - 9, "act", 3, CALLS, 0).traced(11, 30, 10);
        Doc.says("31 looks: super.looks(x) - parts(n).");
        // counts(0) is -3, calls(0) is -6 - 2, parts(1) is 1 by 1
        thing(2, 2).due((-8 ^ 12) - 1, "act", 3, LOOKS, 0).traced(31, 13, 11, 30, 10, 12);
        Doc.says("scholar: 40 counts: 1 - super.counts(x).");
        thing(4, 2).due(1 - (-2 ^ 3), "act", 3, COUNTS, 0).traced(40, 30, 10);
        thing(4, 2).due(1 - (LEAST ^ 3), "act", 3, COUNTS, LEAST + 2);
        Doc.says("41 calls: super.calls(x) + counts(a).");
        // counts(0) is 4, counts(2) is 1 - (0 ^ 3)
        thing(4, 2).due(4 * 2 - 2 - 2, "act", 3, CALLS, 0).traced(41, 11, 40, 30, 10, 40, 30, 10);
        thing(4, 2).due((4 ^ 12) - 1, "act", 3, LOOKS, 0).traced(31, 13, 41, 11, 40, 30, 10, 40, 30, 10, 12);
        Doc.says("grandson: 50 parts: super.parts(x + a) * 2.");
        thing(3, 4).due(6, "act", 3, PARTS, 7).traced(50, 12).due(0, "act", 3, PARTS, -4).due(0, "act", 3, PARTS, -6)
            .due(-2, "act", 3, PARTS, -7);
        // x + a wraps, and twice that too
        thing(3, 2).due((MOST + 2) * 2, "act", 3, PARTS, MOST).due((LEAST + 2) * 2, "act", 3, PARTS, LEAST);
        Doc.says("51 counts: super.counts(x) - n.");
        thing(3, 4).due(4, "act", 3, COUNTS, 7).traced(51, 10).due(4 * 2 - 4 + 5, "act", 3, CALLS, 7).traced(20, 11, 51, 10)
            .due(9 ^ 12, "act", 3, LOOKS, 7).traced(13, 20, 11, 51, 10);
        thing(3, 4).due(MOST, "act", 3, COUNTS, LEAST + 2);
        Doc.says("lady: 60 looks: super.looks(x) * 3.");
        thing(5, 4).due((6 ^ 12) * 3, "act", 3, LOOKS, 7).traced(60, 13, 11, 10)
            .due((MOST - 1 - 2) * 2 - 4, "act", 3, CALLS, MOST - 1);
        thing(5, 4).due((((1 << 30) - 2) * 2 - 4 ^ 12) * 3, "act", 3, LOOKS, 1 << 30);
        Doc.says("61 parts: super.parts(x) ^ counts(n).");
        thing(5, 4).due(2 ^ -1, "act", 3, PARTS, 7).traced(61, 12, 10).due(-2 ^ -1, "act", 3, PARTS, -7);
    }

    private static void trace() {
        Doc.says("THE TRACE: numbers of the bodies that ran in the latest act(), as they began (left first); the first "
            + "30 are kept.");
        new Play().asked(0, "many", 6).asked(-3, "trace", 0);
        Play p = thing(4, 4);
        p.call("act", 3, LOOKS, 7);
        // the longest of all
        p.traced(31, 13, 41, 11, 40, 30, 10, 40, 30, 10, 12).asked(-3, "trace", 11).asked(-3, "trace", 29).asked(-3, "trace", 30)
            .asked(12, "trace", 10);
        p.call("act", 3, PARTS, 7);
        p.traced(12).asked(-3, "trace", 1);
        p.call("act", 3, COUNTS, 7);
        p.traced(40, 30, 10);
        // the latest act() answers -15: what began until then
        Play q = thing(5, 1);
        q.call("act", 3, LOOKS, 7);
        q.traced(60, 13, 11, 10).due(-15, "act", 3, PARTS, 7).traced(61, 12);
        thing(2, 1).due(-15, "act", 3, LOOKS, 7).traced(31, 13, 11, 30, 10, 12);
        thing(3, 1).due(-15, "act", 3, PARTS, 7).traced(50, 12);
    }

    private static void sheets() {
        Doc.says("SHEETS 0 to 3 are rows of bytes (sort 0), shorts (1), ints (2) or longs (3), 40 at most, or missing "
            + "(at first).");
        Play p = new Play();
        for (int sheet = 0; sheet < 4; sheet++) p.asked(-11, "item", sheet, 0, 0).asked(-11, "put", sheet, 0, 0);
        p.badOutside(0, 3, 0, "sheet", 0, 0, 1).badOutside(0, 3, 0, "put", 0, 0, 1).badOutside(0, 3, 0, "item", 0, 0, 0)
            .badOutside(-1, 3, 1, "sheet", 0, 0, 1);
        for (int sort = 0; sort < 4; sort++) {
            Play q = new Play().due(1, "sheet", 3 - sort, sort, 40).due(1, "put", 3 - sort, 39, 7)
                .is(7, "item", 3 - sort, sort, 39).is(0, "item", 3 - sort, sort, 0);
            q.asked(-12, "put", 3 - sort, 40, 7).asked(-12, "item", 3 - sort, sort, 40).asked(-1, "sheet", 3 - sort, sort, 41);
            for (int other = 0; other < 4; other++) if (other != sort) q.asked(-13, "item", 3 - sort, other, 39);
            q.due(1, "sheet", 3 - sort, -1, 0).asked(-11, "item", 3 - sort, sort, 39);
        }
        // each has items of its own
        Play r = new Play();
        for (int sheet = 0; sheet < 4; sheet++) r.due(1, "sheet", sheet, 2, 40).due(1, "put", sheet, 0, 10 + sheet)
            .due(1, "put", sheet, 39, 20 + sheet);
        for (int sheet = 0; sheet < 4; sheet++) r.is(10 + sheet, "item", sheet, 2, 0).is(20 + sheet, "item", sheet, 2, 39);
    }

    private static void shelves() {
        Doc.says("SHELVES 0 to 3 hold one of PEOPLE (by its number; nothing, if there is no such one at the time),");
        Play p = Play.of("child at 0; lady at 0;").due(1, "shelf", 0, 0, 1).due(1, "shelf", 3, 0, 0).is(1, "taken", 0, 5)
            .is(0, "taken", 3, 0).asked(-11, "taken", 1, 0);
        p.badOutside(0, 3, 0, "shelf", 0, 0, 0).badOutside(0, 3, 0, "taken", 0, 0);
        p.due(1, "keep").feed("widower at 0;").due(1, "park").asked(-11, "taken", 0, 0).asked(-11, "taken", 0, 10)
            .asked(0, "taken", 3, 1);
        p.due(0, "act", 0, COUNTS, 7).traced().due(7, "act", 3, COUNTS, 7).due(0, "act", 0, COUNTS, 7).traced();
        // a new one of that number, and the old one again
        p.due(1, "person", 2, 0, 0, 0, 0).asked(1, "taken", 0, 2).asked(-13, "taken", 0, 5).due(2, "again")
            .asked(1, "taken", 0, 5).asked(-13, "taken", 0, 2);
        Doc.says("a SHEET's row,");
        Play q = new Play().due(1, "sheet", 0, 0, 5).due(1, "sheet", 3, 3, 40).due(1, "shelf", 0, 1, 0).due(1, "shelf", 3, 1, 3)
            .is(5, "taken", 0, 10).is(40, "taken", 3, 13);
        // the row, though the SHEET becomes another one
        q.due(1, "sheet", 0, 1, 6).is(5, "taken", 0, 10).asked(-13, "taken", 0, 11).due(1, "shelf", 0, 1, 0).is(6, "taken", 0, 11)
            .due(1, "sheet", 0, -1, 0).is(6, "taken", 0, 11);
        Doc.says("or nothing (at first).");
        Play r = new Play();
        for (int shelf = 0; shelf < 4; shelf++) r.asked(-11, "taken", shelf, 0).asked(-11, "taken", shelf, 10)
            .due(0, "act", shelf, COUNTS, 7);
    }
}
