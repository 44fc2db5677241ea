/** Promises 33 to 47, sentence by sentence: ROWS, SHEETS, SHELVES, ACTS, counts, and what is kept. */
final class Promises33To47 {
    private static final int LEAST = Integer.MIN_VALUE, MOST = Integer.MAX_VALUE;

    private Promises33To47() {
    }

    static void run() {
        prove();
        row();
        alterRow();
        judge();
        minds();
        mindsRefused();
        sheet();
        put();
        item();
        shelf();
        taken();
        act();
        trace();
        many();
        keepAndAgain();
    }

    private static void prove() {
        Doc.section("promise 33");
        Doc.says("ROWS of one by n YEARS (1 to 10): how many.");
        Play p = Play.of("child at 11 seeks; lady at 5;");
        for (int n = 1; n <= 10; n++) {
            p.due(n, "prove", 0, n).is(n, "many", 4).is((11 + n) % 12, "row", n - 1, 0).is(-9, "row", n, 0);
        }
        // fewer ROWS than before, of another one
        p.due(1, "prove", 1, 1).is(1, "many", 4).is(5, "row", 0, 0).is(1, "row", 0, 1).is(-9, "row", 1, 0).is(0, "state", 0);
        // whatever its number: ROWS of the one that finds and of the one that is found
        for (int finder = 0; finder < 8; finder++) {
            int other = (finder + 1) % 8;
            Play q = Play.withFinder(finder, other).due(2, "prove", finder, 2).is(4, "row", 1, 0).is(1, "row", 0, 1)
                .is(1, "row", 1, 2);
            q.due(2, "prove", other, 2).is(4, "row", 0, 0).is(5, "row", 1, 0).is(0, "row", 0, 1).is(0, "row", 1, 2);
        }
        Doc.says("BAD.");
        p.badOutside(0, 1, 0, "prove", 0, 1).badOutside(1, 10, 1, "prove", 0, 1);
        new Play().asked(-1, "prove", 0, 1);
    }

    private static void row() {
        Doc.section("promise 34");
        Doc.says("Of ROW i: what = 0 its PLACE, 1 whether HIDDEN, 2 FINDS.");
        Play p = Play.of("child at 10 wit 9 seeks; child at 0; out 99;").due(10, "prove", 0, 10);
        p.asked(11, "row", 0, 0).asked(0, "row", 0, 1).asked(0, "row", 0, 2).asked(0, "row", 1, 0).asked(1, "row", 1, 1)
            .asked(1, "row", 1, 2);
        p.asked(0, "row", 9, 0).asked(1, "row", 9, 1).asked(1, "row", 9, 2);
        Doc.says("-9: there is none such, another what.");
        for (int odd : new int[] {-1, 10, LEAST, MOST}) p.asked(-9, "row", odd, 0).asked(-9, "row", odd, 2);
        for (int odd : new int[] {-1, 3, LEAST, MOST}) p.asked(-9, "row", 0, odd).asked(-9, "row", 9, odd);
        p.due(1, "prove", 1, 1).asked(-9, "row", 1, 0).asked(-9, "row", 1, 1);
        new Play().asked(-9, "row", 0, 0);
    }

    private static void alterRow() {
        Doc.section("promise 35");
        Doc.says("It becomes v: what it was.");
        Play p = Play.of("child at 10 seeks;").due(10, "prove", 0, 10);
        p.due(11, "alterRow", 0, 0, LEAST).due(LEAST, "alterRow", 0, 0, MOST).is(MOST, "row", 0, 0).due(0, "alterRow", 9, 2, -9)
            .is(-9, "row", 9, 2).due(-9, "alterRow", 9, 2, 5);
        p.due(0, "alterRow", 9, 1, 7).is(7, "row", 9, 1).is(8, "row", 9, 0).is(5, "row", 9, 2).is(0, "row", 0, 1)
            .is(0, "row", 8, 2).is(10, "many", 4);
        Doc.says("-9 likewise.");
        for (int odd : new int[] {-1, 10, LEAST, MOST}) p.asked(-9, "alterRow", odd, 0, 1);
        for (int odd : new int[] {-1, 3, LEAST, MOST}) p.asked(-9, "alterRow", 0, odd, 1).asked(-9, "alterRow", 9, odd, 1);
        p.due(1, "prove", 0, 1).asked(-9, "alterRow", 1, 0, 1);
        new Play().asked(-9, "alterRow", 0, 0, 0);
    }

    private static void judge() {
        Doc.section("promise 36");
        Doc.says("THE READER takes ROWS: 0 all is right (also if there are none);");
        Play p = Play.of("child at 10 seeks; child at 10 seeks;").asked(0, "judge", 0).due(1, "prove", 0, 1).asked(0, "judge", 0)
            .due(10, "prove", 0, 10).asked(0, "judge", 0).asked(0, "judge", 1);
        Play.of("lady at 1;").due(10, "prove", 0, 10).asked(0, "judge", 0);
        for (int finder = 0; finder < 8; finder++) {
            int other = (finder + 1) % 8;
            Play f = Play.withFinder(finder, other).due(2, "prove", finder, 2).is(0, "judge", finder).due(2, "prove", other, 2)
                .is(0, "judge", other);
            // ROWS told by hand: found behind 1, gone behind 2
            f.due(2, "prove", (finder + 2) % 8, 2).due(0, "alterRow", 0, 0, 4).due(1, "alterRow", 0, 1, 0)
                .due(0, "alterRow", 1, 0, 5).due(1, "alterRow", 1, 1, 0).is(0, "judge", other);
        }
        Doc.says("else the first ROW that isn't, and 1 more.");
        for (int i = 9; i >= 0; i--) p.due((11 + i) % 12, "alterRow", i, 0, 12).asked(i + 1, "judge", 0);
        Play q = Play.of("child at 10 seeks;").due(2, "prove", 0, 2).due(0, "alterRow", 1, 2, 1).asked(2, "judge", 0)
            .due(0, "alterRow", 0, 1, 1).asked(1, "judge", 0);
        // ROWS that are one YEAR old, and of one that has changed
        q.due(2, "prove", 0, 2).due(0, "years", 1).asked(1, "judge", 0).due(11, "bring", 0, 10).asked(0, "judge", 0)
            .due(1, "seek", 0, 0).asked(1, "judge", 0);
        Doc.says("BAD.");
        p.badOutside(0, 1, 0, "judge", 0);
        new Play().asked(-1, "judge", 0);
    }

    /** Eight of WIT 5, and SHEET 0 of bytes with these items; SHEET 1 of shorts; SHEETS 2 and 3 missing. */
    private static Play eight(int... items) {
        Play p = new Play();
        for (int i = 0; i < 8; i++) p.call("person", 0, 0, 5, 0, 0);
        p.call("sheet", 0, 0, items.length);
        for (int i = 0; i < items.length; i++) p.call("put", 0, i, items[i]);
        p.call("sheet", 1, 1, 8);
        return p;
    }

    private static Play wits(Play p, int... wits) {
        for (int i = 0; i < wits.length; i++) p.is(wits[i], "of", i, 2);
        return p;
    }

    private static void minds() {
        Doc.section("promise 37");
        Doc.says("n numbers (0 to 8) of a SHEET taken for bytes, from i on, become WIT of PEOPLE from one on (held to 0 "
            + "to 9): n.");
        wits(eight(-128, -1, 0, 1, 8, 9, 10, 127).due(8, "minds", 0, 0, 0, 8), 0, 0, 0, 1, 8, 9, 9, 9);
        wits(eight(1, 2, 3).due(2, "minds", 0, 1, 6, 2), 5, 5, 5, 5, 5, 5, 2, 3);
        wits(eight(1, 2, 3).due(1, "minds", 0, 2, 0, 1), 3, 5, 5, 5, 5, 5, 5, 5);
        wits(eight(1, 2, 3).due(3, "minds", 0, 0, 5, 3), 5, 5, 5, 5, 5, 1, 2, 3);
        // narrowed first: 260 is 4 as a byte, 200 is below 0
        wits(eight(260, 200).due(2, "minds", 0, 0, 0, 2), 4, 0, 5);
        // none
        wits(eight(1, 2, 3).due(0, "minds", 0, 0, 0, 0).due(0, "minds", 0, 3, 7, 0), 5, 5, 5, 5, 5, 5, 5, 5);
        wits(eight().due(0, "minds", 0, 0, 0, 0), 5, 5);
        // nothing but WIT
        eight(1).due(1, "minds", 0, 0, 0, 1).one(0, 0, 0, 1, 0, 1, 0);
    }

    private static void mindsRefused() {
        Play p = eight(1, 2, 3, 4, 5, 6, 7, 8);
        Doc.says("BAD: no such SHEET, one, n, or n goes beyond the last one;");
        p.badOutside(0, 3, 0, "minds", 0, 0, 0, 1).badOutside(0, 7, 2, "minds", 0, 0, 0, 1)
            .badOutside(0, 7, 2, "minds", 0, 0, 0, 0).badOutside(0, 8, 3, "minds", 0, 0, 0, 1);
        for (int one = 0; one < 8; one++) p.asked(-1, "minds", 0, 0, one, 9 - one).asked(-1, "minds", 3, 99, one, 9 - one);
        for (int bad : new int[] {-1, LEAST, 9}) p.asked(-1, "minds", 1, 0, 0, bad).asked(-1, "minds", 2, 0, 0, bad)
            .asked(-1, "minds", 0, 99, 0, bad).asked(-1, "minds", 0, 8, 7, bad);
        p.asked(-1, "minds", 0, 0, 1, MOST).asked(-1, "minds", 0, 0, MOST, MOST);
        new Play().due(1, "sheet", 0, 0, 4).asked(-1, "minds", 0, 0, 0, 0);
        Doc.says("-11;");
        p.asked(-11, "minds", 2, 0, 0, 1).asked(-11, "minds", 3, 99, 0, 0);
        Doc.says("-13;");
        p.asked(-13, "minds", 1, 0, 0, 1).asked(-13, "minds", 1, 99, 0, 0);
        eight(1).due(1, "sheet", 0, 2, 8).asked(-13, "minds", 0, 0, 0, 1).due(1, "sheet", 0, 3, 8).asked(-13, "minds", 0, 0, 0, 1)
            .due(1, "sheet", 0, 0, 8).due(1, "minds", 0, 0, 0, 1);
        Doc.says("-12: i is not 0 to how many items there are (also for n 0), or there are not so many.");
        for (int odd : new int[] {-1, 9, LEAST, MOST}) {
            p.asked(-12, "minds", 0, odd, 0, 1).asked(-12, "minds", 0, odd, 0, 0).asked(-12, "minds", 0, odd, 0, 8);
        }
        p.asked(-12, "minds", 0, 8, 0, 1).asked(-12, "minds", 0, 7, 0, 2).asked(-12, "minds", 0, 1, 0, 8)
            .due(0, "minds", 0, 8, 0, 0).due(1, "minds", 0, 7, 0, 1);
        eight().asked(-12, "minds", 0, 0, 0, 1).asked(-12, "minds", 0, 1, 0, 0).asked(-12, "minds", 0, -1, 0, 0);
    }

    private static void sheet() {
        Doc.section("promise 38");
        Doc.says("A SHEET becomes a row of n of a sort, all 0, or missing (sort -1; n counts nothing then): 1.");
        for (int sort = 0; sort < 4; sort++) {
            Play p = new Play().due(1, "sheet", 2, sort, 40);
            for (int i = 0; i < 40; i++) p.call("put", 2, i, -1);
            p.due(1, "sheet", 2, sort, 40);
            for (int i = 0; i < 40; i++) p.is(0, "item", 2, sort, i);
            // fewer, then more again: none of the old items are left
            p.due(1, "put", 2, 39, 7).due(1, "sheet", 2, sort, 1).asked(-12, "item", 2, sort, 1).due(1, "sheet", 2, sort, 40)
                .is(0, "item", 2, sort, 39);
            p.due(1, "sheet", 2, sort, 0).asked(-12, "item", 2, sort, 0).asked(-12, "put", 2, 0, 0);
            p.due(1, "sheet", 2, sort, 3).due(1, "put", 2, 2, 7).due(1, "sheet", 2, 3 - sort, 3).is(0, "item", 2, 3 - sort, 2)
                .asked(-13, "item", 2, sort, 2);
            for (int n : new int[] {0, -1, 41, LEAST, MOST}) p.due(1, "sheet", 2, 1, 4).due(1, "sheet", 2, -1, n)
                .asked(-11, "item", 2, 1, 0).due(1, "sheet", 2, -1, n);
        }
        Doc.says("BAD: no such SHEET, sort, n above 40;");
        Play q = new Play().due(1, "sheet", 0, 1, 3).due(1, "put", 0, 2, 9).badOutside(0, 3, 0, "sheet", 0, 0, 1)
            .badOutside(0, 3, 0, "sheet", 0, -1, 1).badOutside(-1, 3, 1, "sheet", 0, 0, 1);
        for (int sort = 0; sort < 4; sort++) q.asked(-1, "sheet", 0, sort, 41).asked(-1, "sheet", 0, sort, MOST);
        Doc.says("-14.");
        for (int sort = 0; sort < 4; sort++) q.asked(-14, "sheet", 0, sort, -1).asked(-14, "sheet", 0, sort, LEAST)
            .asked(-14, "sheet", 3, sort, -1);
    }

    private static void put() {
        Doc.section("promise 39");
        Doc.says("Item i becomes v, narrowed to its sort: 1.");
        int[] put = {0, 1, -1, 127, 128, 255, 256, -128, -129, 32767, 32768, 65535, 65536, -32768, -32769, LEAST, MOST};
        Play p = new Play();
        for (int sort = 0; sort < 4; sort++) p.call("sheet", sort, sort, 3);
        for (int v : put) {
            p.due(1, "put", 0, 1, v).is((byte) v, "item", 0, 0, 1).due(1, "put", 1, 1, v).is((short) v, "item", 1, 1, 1);
            p.due(1, "put", 2, 1, v).is(v, "item", 2, 2, 1).due(1, "put", 3, 1, v).is(v, "item", 3, 3, 1);
        }
        for (int sort = 0; sort < 4; sort++) p.is(0, "item", sort, sort, 0).is(0, "item", sort, sort, 2).due(1, "put", sort, 0, 5)
            .due(1, "put", sort, 2, 6).is(5, "item", sort, sort, 0).is(6, "item", sort, sort, 2);
        Doc.says("BAD: no such SHEET;");
        p.badOutside(0, 3, 0, "put", 0, 0, 1);
        Doc.says("-11;");
        new Play().asked(-11, "put", 0, 0, 1).asked(-11, "put", 3, -1, 1);
        Doc.says("-12.");
        for (int odd : new int[] {-1, 3, LEAST, MOST}) p.asked(-12, "put", 0, odd, 1).asked(-12, "put", 3, odd, 1);
        new Play().due(1, "sheet", 0, 2, 0).asked(-12, "put", 0, 0, 1);
    }

    private static void item() {
        Doc.section("promise 40");
        Doc.says("Item i, taken for a sort (0 to 3; of longs the lowest 32 bits).");
        Play p = new Play();
        for (int sort = 0; sort < 4; sort++) p.due(1, "sheet", sort, sort, 40).due(1, "put", sort, 0, 11 + sort)
            .due(1, "put", sort, 39, 21 + sort);
        for (int sort = 0; sort < 4; sort++) p.asked(11 + sort, "item", sort, sort, 0).asked(21 + sort, "item", sort, sort, 39)
            .asked(0, "item", sort, sort, 1);
        p.due(1, "put", 3, 1, LEAST).asked(LEAST, "item", 3, 3, 1).due(1, "put", 3, 1, -1).asked(-1, "item", 3, 3, 1)
            .due(1, "put", 3, 1, MOST).asked(MOST, "item", 3, 3, 1);
        Doc.says("BAD: no such SHEET, sort;");
        p.badOutside(0, 3, 0, "item", 0, 0, 0).badOutside(0, 3, 1, "item", 0, 0, 0);
        new Play().badOutside(0, 3, 1, "item", 0, 0, 0);
        Doc.says("-11;");
        new Play().asked(-11, "item", 0, 0, 0).asked(-11, "item", 3, 3, 40).asked(-11, "item", 1, 0, -1);
        Doc.says("-13;");
        for (int sheet = 0; sheet < 4; sheet++) {
            for (int sort = 0; sort < 4; sort++) if (sort != sheet) p.asked(-13, "item", sheet, sort, 0)
                .asked(-13, "item", sheet, sort, 40);
        }
        Doc.says("-12.");
        for (int odd : new int[] {-1, 40, LEAST, MOST}) p.asked(-12, "item", 0, 0, odd).asked(-12, "item", 3, 3, odd);
        new Play().due(1, "sheet", 0, 1, 0).asked(-12, "item", 0, 1, 0);
        Doc.says("(An item may be as low as these, too.)");
        for (int low : new int[] {-1, -11, -12, -13}) {
            for (int sort = 0; sort < 4; sort++) p.due(1, "put", sort, 5, low).asked(low, "item", sort, sort, 5);
        }
    }

    private static void shelf() {
        Doc.section("promise 41");
        Doc.says("A SHELF holds one of PEOPLE (what 0, its number n), the row of SHEET n (1; nothing, if missing), "
            + "nothing (2): 1.");
        Play p = Play.of("lady at 0;".repeat(8));
        for (int shelf = 0; shelf < 4; shelf++) {
            p.due(1, "sheet", shelf, shelf, 10 + shelf).due(1, "shelf", shelf, 0, 7).is(7, "taken", shelf, 5)
                .due(1, "shelf", shelf, 0, 0).is(0, "taken", shelf, 0);
            p.due(1, "shelf", shelf, 1, shelf).is(10 + shelf, "taken", shelf, 10 + shelf).due(1, "shelf", shelf, 0, 3)
                .is(3, "taken", shelf, 5);
        }
        for (int shelf = 0; shelf < 4; shelf++) p.due(1, "shelf", shelf, 1, 3 - shelf);
        for (int shelf = 0; shelf < 4; shelf++) p.is(13 - shelf, "taken", shelf, 13 - shelf);
        // nothing, in the stead of a row and of one; n counts nothing then
        for (int n : new int[] {0, -1, 8, LEAST, MOST}) p.due(1, "shelf", 0, 2, n).asked(-11, "taken", 0, 13)
            .due(1, "shelf", 0, 0, 1).due(1, "shelf", 0, 2, n).asked(-11, "taken", 0, 0);
        // a SHEET that is missing, then and before
        p.due(1, "shelf", 1, 0, 1).due(1, "sheet", 2, -1, 0).due(1, "shelf", 1, 1, 2).asked(-11, "taken", 1, 12)
            .asked(-11, "taken", 1, 0);
        p.due(1, "sheet", 2, 2, 4).asked(-11, "taken", 1, 12).due(1, "shelf", 1, 1, 2).is(4, "taken", 1, 12);
        Doc.says("BAD: no such SHELF, what, thing.");
        Play q = Play.of("lady at 0; lady at 1;").due(1, "shelf", 0, 0, 1).badOutside(0, 3, 0, "shelf", 0, 0, 0)
            .badOutside(0, 3, 0, "shelf", 0, 1, 0).badOutside(0, 3, 0, "shelf", 0, 2, 0);
        q.badOutside(0, 2, 1, "shelf", 0, 0, 0).badOutside(0, 1, 2, "shelf", 0, 0, 0).badOutside(0, 3, 2, "shelf", 0, 1, 0);
        new Play().asked(-1, "shelf", 0, 0, 0);
    }

    private static void taken() {
        Doc.section("promise 42");
        Doc.says("What a SHELF holds taken for a thing of KIND as (0 to 5, or one under it): its number;");
        int[][] as = {{0}, {0, 1}, {0, 2}, {0, 1, 3}, {0, 2, 4}, {0, 5}};
        Play p = Play.of("lady at 0; lady at 0; child at 0; widower at 0; keeper at 0; grandson at 0; scholar at 0; lady at 0;");
        for (int kind = 0; kind < 6; kind++) {
            p.call("shelf", 0, 0, kind + 2);
            for (int k : as[kind]) p.asked(kind + 2, "taken", 0, k);
        }
        // by the KIND that it is now
        p.due(1, "shelf", 0, 0, 0).asked(0, "taken", 0, 5).due(5, "mind", 0, 3, 0).asked(0, "taken", 0, 3).asked(0, "taken", 0, 1)
            .asked(-13, "taken", 0, 5);
        Doc.says("for a row of sort as - 10 (as 10 to 13): how many items.");
        Play rows = new Play();
        for (int sort = 0; sort < 4; sort++) {
            for (int n : new int[] {0, 1, 40}) rows.due(1, "sheet", 0, sort, n).due(1, "shelf", sort, 1, 0)
                .asked(n, "taken", sort, 10 + sort);
        }
        Doc.says("BAD: no such SHELF, as;");
        for (int odd : new int[] {-1, 6, 7, 8, 9, 14, LEAST, MOST}) {
            p.asked(-1, "taken", 0, odd);
            rows.asked(-1, "taken", 0, odd);
            new Play().asked(-1, "taken", 0, odd);
        }
        p.badOutside(0, 3, 0, "taken", 0, 0).badOutside(0, 3, 0, "taken", 0, 10);
        Doc.says("-11;");
        for (int k : new int[] {0, 5, 10, 13}) new Play().asked(-11, "taken", 0, k).asked(-11, "taken", 3, k);
        // one that is no more
        Play.of("lady at 0;").due(1, "shelf", 0, 0, 0).due(0, "park").asked(-11, "taken", 0, 5).asked(-11, "taken", 0, 0)
            .asked(-11, "taken", 0, 10);
        Doc.says("-13.");
        for (int kind = 0; kind < 6; kind++) {
            p.call("shelf", 0, 0, kind + 2);
            for (int k = 0; k < 6; k++) {
                boolean is = false;
                for (int above : as[kind]) is |= above == k;
                if (!is) p.asked(-13, "taken", 0, k);
            }
            for (int k = 10; k < 14; k++) p.asked(-13, "taken", 0, k);
        }
        for (int sort = 0; sort < 4; sort++) {
            for (int k : new int[] {0, 1, 2, 3, 4, 5, 10, 11, 12, 13}) if (k != sort + 10) rows.asked(-13, "taken", sort, k);
        }
    }

    private static void act() {
        Doc.section("promise 43");
        Doc.says("An ACT (0 to 3) of the thing on a SHELF, with x.");
        Play p = Play.of("child at 0 wit 3; widower at 0 wit 3;").due(1, "shelf", 0, 0, 0).due(1, "shelf", 3, 0, 1);
        p.due(7, "act", 0, 0, 7).due(11, "act", 0, 1, 7).due(2, "act", 0, 2, 7).due(11 ^ 12, "act", 0, 3, 7)
            .due(5, "act", 3, 0, 7).due(12, "act", 3, 1, 7);
        p.due(3, "act", 3, 2, 7).due(0, "act", 3, 3, 7).due(LEAST, "act", 0, 0, LEAST).due(MOST, "act", 0, 0, MOST);
        Doc.says("0, and no TRACE then: no such SHELF, act, nothing, a row.");
        p.call("sheet", 0, 0, 4);
        p.call("shelf", 1, 1, 0);
        int[][] none = {{-1, 0}, {4, 0}, {LEAST, 0}, {MOST, 0}, {0, -1}, {0, 4}, {0, LEAST}, {0, MOST}, {1, 0}, {1, 3}, {2, 0}, {2, 3}};
        for (int[] n : none) p.due(11, "act", 0, 1, 7).is(2, "many", 6).due(0, "act", n[0], n[1], 7).is(0, "many", 6)
            .is(-3, "trace", 0).is(-3, "trace", 1);
        for (int kind = 0; kind < 6; kind++) {
            Play q = new Play().due(0, "person", kind, 0, 3, 0, 0).due(1, "shelf", 0, 0, 0);
            for (int odd : new int[] {-1, 4, LEAST, MOST}) q.due(0, "act", 0, odd, 7).is(0, "many", 6);
        }
        // one that is no more
        Play.of("lady at 0;").due(1, "shelf", 0, 0, 0).due(7, "act", 0, 0, 7).due(0, "park").is(1, "many", 6)
            .due(0, "act", 0, 0, 7).is(0, "many", 6);
    }

    private static void trace() {
        Doc.section("promise 44");
        Doc.says("THE TRACE's i-th body.");
        Play p = Play.of("scholar at 0 wit 3;").due(1, "shelf", 0, 0, 0);
        p.call("act", 0, 3, 7);
        int[] bodies = {31, 13, 41, 11, 40, 30, 10, 40, 30, 10, 12};
        for (int i = 0; i < bodies.length; i++) p.asked(bodies[i], "trace", i);
        Doc.says("NONE.");
        for (int odd : new int[] {-1, 11, 12, 29, 30, 31, LEAST, MOST}) p.asked(-3, "trace", odd);
        p.call("act", 0, 2, 7);
        p.asked(12, "trace", 0).asked(-3, "trace", 1).asked(-3, "trace", 10);
        new Play().asked(-3, "trace", 0).asked(-3, "trace", -1);
    }

    private static void many() {
        Doc.section("promise 45");
        Doc.says("How many: what = 0 PEOPLE, 1 those HIDDEN, 2 PLACES AT which one is HIDDEN, 3 those AT one PLACE with "
            + "another one, 4 ROWS, 5 bytes of THE TAPE, 6 bodies of THE TRACE.");
        Play none = new Play();
        for (int what = 0; what < 7; what++) none.asked(0, "many", what);
        Play p = Play.of("lady at 0; lady at 0; lady at 0 seeks; scholar at 5 wit 1; lady at 5 seeks; lady at 7; lady at 11 seeks;")
            .due(1, "shelf", 0, 0, 3);
        p.call("act", 0, 3, 7);
        p.due(10, "prove", 0, 10).feed(" ".repeat(200));
        int[] due = {7, 4, 3, 5, 10, 200, 11};
        for (int what = 0; what < 7; what++) p.asked(due[what], "many", what);
        // all AT one PLACE, none with another, one alone
        Play.of("lady at 3;".repeat(8)).asked(8, "many", 0).asked(8, "many", 1).asked(1, "many", 2).asked(8, "many", 3);
        Play.of("lady at 0; lady at 1; lady at 2; lady at 3; lady at 4; lady at 5; lady at 6; lady at 11;").asked(0, "many", 3)
            .asked(8, "many", 2);
        Play.of("lady at 3;").asked(0, "many", 3).due(1, "person", 0, 0, 0, 3, 1).asked(2, "many", 3).asked(1, "many", 1)
            .asked(1, "many", 2);
        // two and two
        Play.of("lady at 0; lady at 11; lady at 0 seeks; lady at 11;").asked(4, "many", 3).asked(2, "many", 2);
        Doc.says("BAD: another what.");
        p.badOutside(0, 6, 0, "many", 0);
        none.badOutside(0, 6, 0, "many", 0);
    }

    private static void keepAndAgain() {
        Doc.section("promise 46");
        Doc.says("All but THE TAPE, ROWS, SHEETS, SHELVES, THE TRACE is kept: 1.");
        // all of the park is kept
        Play p = Play.of("child at 3 age 9 wit 9 seeks; child at 4 wit 2; lady at 11 age 99 wit 7 seeks; out 98; dark 7; lamp 6; peep 5; cover 0 is 9; cover 11 is 1;");
        p.due(1, "years", 1).due(1, "seed", 77).due(1, "keep").due(77, "seed", 5);
        for (int law = 0; law < 4; law++) p.call("set", law, 1);
        p.call("cover", 0, 1);
        p.call("cover", 11, 2);
        p.call("years", 4);
        for (int i = 0; i < 3; i++) {
            p.call("mind", i, 2, 1);
            p.call("age", i, 50);
            p.call("bring", i, 7);
        }
        p.call("seek", 0, 1);
        p.call("seek", 1, 0);
        p.call("person", 0, 0, 0, 0, 0);
        p.due(3, "again").one(0, 0, 10, 9, 4, 1, 1).one(1, 0, 1, 2, 4, 0, 0).one(2, 5, 99, 7, 11, 0, 0).is(1, "state", 0)
            .is(-1, "of", 3, 0);
        int[] laws = {98, 7, 6, 5};
        for (int law = 0; law < 4; law++) p.is(laws[law], "lawOf", law);
        p.is(9, "place", 0, 0).is(1, "place", 11, 0).is(40, "state", 5).due(77, "seed", 1);
        // the rest is not
        Play q = TermsEdges.rich().due(1, "keep").due(1, "alterRow", 0, 1, 5).due(1, "put", 0, 0, 6).due(1, "sheet", 1, -1, 0)
            .due(1, "shelf", 0, 2, 0).due(0, "act", 0, 0, 0).feed(" x");
        q.due(3, "again").is(5, "row", 0, 1).is(6, "item", 0, 0, 0).is(-11, "item", 1, 1, 0).is(-11, "taken", 0, 1)
            .is(0, "many", 6).is(20, "many", 5).due(-119, "park");
        new Play().due(1, "keep").due(0, "person", 0, 0, 0, 0, 0).due(0, "again");
        Doc.section("promise 47");
        Doc.says("It becomes what was kept latest (which stays): how many PEOPLE.");
        Play r = Play.of("lady at 0;").due(1, "keep").due(1, "person", 0, 1, 1, 1, 1).due(1, "keep")
            .due(2, "person", 0, 0, 0, 0, 0);
        for (int turn = 0; turn < 3; turn++) {
            r.due(2, "again").one(0, 5, 0, 0, 0, 1, 0).one(1, 0, 1, 1, 1, 0, 0).is(0, "state", 0).is(36, "state", 5)
                .is(60, "lawOf", 0);
            r.due(1, "years", 1).due(2, "person", 0, 0, 0, 0, 0).due(3, "cover", 0, 9).due(60, "set", 0, 1)
                .due(5, "mind", 0, 3, 3);
        }
        // behind a TEXT and a FAULT it is still what was kept
        r.due(0, "park").due(2, "again").faulty("x", 0).due(2, "again");
        Doc.says("NONE: nothing is kept.");
        new Play().asked(-3, "again");
        Play.of("lady at 0;").due(1, "years", 1).asked(-3, "again");
    }
}
