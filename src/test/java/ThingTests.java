/** Promises 33 to 47: ROWS, SHEETS, SHELVES, ACTS, THE TRACE, counts, and what is kept. */
final class ThingTests {
    private static final int[] ODD_NUMBERS = {-1, Integer.MIN_VALUE, Integer.MAX_VALUE};
    private static final int[] KIND_OF = {0, 1, 2, 3, 4, 5};

    private ThingTests() {
    }

    public static void main(String[] args) {
        rowsAreTried();
        rowsAreAltered();
        rowsAreJudged();
        minds();
        mindsRefused();
        sheets();
        itemsAreNarrowed();
        itemsRefused();
        shelves();
        shelvesRefused();
        shelfHoldsOneByNumber();
        shelfHoldsTheRow();
        actsOfKinds();
        actsParted();
        actsWrap();
        actsRefused();
        counts();
        kept();
        Check.end();
    }

    private static void rowsAreTried() {
        LateSeekers x = Check.parkOf("child at 3 wit 1 seeks; lady at 6; child at 5; cover 5 is 0; out 99;");
        Check.due("33: ten", x.prove(0, 10), 10);
        // 0 comes to 4, then to 5, finds 2 and is HIDDEN there until 2 has gone round and finds nobody (0 hides 0 + 1)
        int[][] due = {{4, 0, 0}, {5, 1, 1}, {5, 1, 1}};
        for (int i = 0; i < 3; i++) {
            for (int what = 0; what < 3; what++) Check.due("34: row(" + i + ", " + what + ")", x.row(i, what), due[i][what]);
        }
        // 1 is found by 2 behind the first YEAR, and goes from the second on
        LateSeekers y = Check.parkOf("child at 0 seeks; child at 5; child at 4 wit 1 seeks; cover 5 is 0; out 99;");
        Check.due("33: one", y.prove(1, 1), 1);
        Check.due("36: one is right", y.judge(1), 0);
        Check.due("33: two", y.prove(1, 2), 2);
        int[][] found = {{5, 0, 0}, {6, 0, 0}};
        for (int i = 0; i < 2; i++) {
            for (int what = 0; what < 3; what++) Check.due("34: of the found one", y.row(i, what), found[i][what]);
        }
        Check.due("36: both are right", y.judge(1), 0);
        y.prove(2, 1);
        Check.due("34: of the finder, PLACE", y.row(0, 0), 5);
        Check.due("34: of the finder, HIDDEN", y.row(0, 1), 1);
        Check.due("34: of the finder, FINDS", y.row(0, 2), 1);
        Check.due("36: of the finder", y.judge(2), 0);
        y.prove(0, 1);
        Check.due("34: of the first", y.row(0, 1), 0);
        y.seek(0, 0);
        y.prove(0, 1);
        Check.due("34: HIDDEN, PLACE", y.row(0, 0), 0);
        Check.due("34: HIDDEN", y.row(0, 1), 1);
        Check.due("34: HIDDEN, FINDS", y.row(0, 2), 0);
        Check.due("33: nothing changes", x.state(0), 0);
        Check.due("33: nothing changes", x.of(0, 3), 3);
        Check.due("45: ROWS", x.many(4), 10);
        Check.due("33: fewer", x.prove(1, 2), 2);
        Check.due("34: another one's", x.row(1, 0), 6);
        Check.due("34: no third", x.row(2, 0), -9);
        Check.due("34: above", x.row(2, 1), -9);
        Check.due("34: what 3", x.row(0, 3), -9);
        Check.due("34: what -1", x.row(0, -1), -9);
        for (int odd : ODD_NUMBERS) {
            Check.due("33: nobody", x.prove(odd, 1), -1);
            Check.due("33: n", x.prove(0, odd), -1);
            Check.due("34: no such", x.row(odd, 0), -9);
        }
        Check.due("33: 0", x.prove(0, 0), -1);
        Check.due("33: 11", x.prove(0, 11), -1);
        Check.due("33: 3", x.prove(3, 1), -1);
        Check.due("33: the rows stay", x.many(4), 2);
    }

    private static void rowsAreAltered() {
        LateSeekers x = Check.parkOf("child at 3 seeks;");
        Check.due("35: none", x.alterRow(0, 0, 1), -9);
        x.prove(0, 2);
        Check.due("35: was", x.alterRow(1, 0, Integer.MIN_VALUE), 5);
        Check.due("34: is", x.row(1, 0), Integer.MIN_VALUE);
        Check.due("35: was that", x.alterRow(1, 0, 7), Integer.MIN_VALUE);
        Check.due("35: of 2", x.alterRow(1, 2, 98), 0);
        Check.due("35: of 2 again", x.alterRow(1, 2, 99), 98);
        Check.due("35: of 1", x.alterRow(1, 1, -5), 0);
        Check.due("35: of 1 again", x.alterRow(1, 1, 6), -5);
        Check.due("34: 2", x.row(1, 2), 99);
        Check.due("34: the other stays", x.row(0, 0), 4);
        int[][] bad = {{2, 0}, {-1, 0}, {0, 3}, {0, -1}, {Integer.MAX_VALUE, 0}, {0, Integer.MIN_VALUE}};
        for (int[] b : bad) Check.due("35: no such", x.alterRow(b[0], b[1], 1), -9);
    }

    private static void rowsAreJudged() {
        LateSeekers x = Check.parkOf("child at 3 seeks; child at 3 seeks; lady at 8;");
        Check.due("36: no ROWS", x.judge(0), 0);
        Check.due("36: nobody", x.judge(3), -1);
        Check.due("36: nobody", x.judge(-1), -1);
        x.prove(0, 10);
        Check.due("36: its own", x.judge(0), 0);
        Check.due("36: alike", x.judge(1), 0);
        Check.due("36: another's", x.judge(2), 1);
        for (int what = 0; what < 3; what++) {
            int was = x.alterRow(9, what, 5);
            Check.due("36: the last", x.judge(0), 10);
            x.alterRow(9, what, was);
        }
        x.alterRow(4, 2, 1);
        x.alterRow(6, 0, 1);
        Check.due("36: the first that isn't right", x.judge(0), 5);
        x.prove(0, 4);
        x.years(1);
        Check.due("36: from how it is now", x.judge(0), 1);
        x.bring(0, 3);
        Check.due("36: by how it is now", x.judge(0), 0);
    }

    private static void minds() {
        LateSeekers x = Check.parkOf("child at 3 wit 5; child at 3 wit 5; lady at 8 wit 5; lady at 8 wit 5;");
        x.sheet(2, 0, 5);
        int[] items = {4, -3, 127, 9, 10};
        for (int i = 0; i < 5; i++) x.put(2, i, items[i]);
        Check.due("37: three", x.minds(2, 1, 1, 3), 3);
        int[] due = {5, 0, 9, 9};
        for (int i = 0; i < 4; i++) Check.due("37: WIT of " + i, x.of(i, 2), due[i]);
        Check.due("37: one alone", x.minds(2, 0, 1, 1), 1);
        Check.due("37: WIT of 1", x.of(1, 2), 4);
        Check.due("37: the next stays", x.of(2, 2), 9);
        Check.due("37: all", x.minds(2, 0, 0, 4), 4);
        Check.due("37: WIT of 1", x.of(1, 2), 0);
        Check.due("37: WIT of 0", x.of(0, 2), 4);
        Check.due("37: none from the end", x.minds(2, 5, 3, 0), 0);
        Check.due("37: to the end", x.minds(2, 4, 3, 1), 1);
        Check.due("37: held to 9", x.of(3, 2), 9);
        x.sheet(3, 0, 0);
        Check.due("37: none of none", x.minds(3, 0, 0, 0), 0);
        Check.due("37: one of none", x.minds(3, 0, 0, 1), -12);
    }

    private static void mindsRefused() {
        LateSeekers x = Check.parkOf("child at 3 wit 5; child at 3 wit 5;");
        x.sheet(0, 0, 5);
        x.sheet(1, 1, 5);
        for (int odd : ODD_NUMBERS) {
            Check.due("37: no such SHEET", x.minds(odd, 0, 0, 1), -1);
            Check.due("37: nobody", x.minds(0, 0, odd, 1), -1);
            Check.due("37: n", x.minds(0, 0, 0, odd), -1);
            Check.due("37: i", x.minds(0, odd, 0, 1), -12);
            Check.due("37: i for 0", x.minds(0, odd, 0, 0), -12);
        }
        Check.due("37: SHEET 4", x.minds(4, 0, 0, 1), -1);
        Check.due("37: nobody, for 0", x.minds(0, 0, 2, 0), -1);
        Check.due("37: 9", x.minds(0, 0, 0, 9), -1);
        Check.due("37: beyond the last one", x.minds(0, 0, 1, 2), -1);
        Check.due("37: beyond before missing", x.minds(2, 0, 1, 2), -1);
        Check.due("37: missing before outside", x.minds(2, 9, 0, 1), -11);
        Check.due("37: sort before outside", x.minds(1, 9, 0, 1), -13);
        Check.due("37: not so many", x.minds(0, 4, 0, 2), -12);
        Check.due("37: behind the end", x.minds(0, 6, 0, 0), -12);
        Check.due("37: nothing changed", x.of(0, 2), 5);
    }

    private static void sheets() {
        LateSeekers x = new LateSeekers();
        for (int sort = 0; sort < 4; sort++) {
            Check.due("38: a row", x.sheet(1, sort, 40), 1);
            Check.due("38: all 0", x.item(1, sort, 39), 0);
            Check.due("39: put", x.put(1, 39, 5), 1);
            Check.due("39: put first", x.put(1, 0, 6), 1);
            Check.due("40: item", x.item(1, sort, 39), 5);
            Check.due("38: anew", x.sheet(1, sort, 40), 1);
            for (int i = 0; i < 40; i++) Check.due("38: all 0 again", x.item(1, sort, i), 0);
        }
        Check.due("38: an empty row", x.sheet(1, 2, 0), 1);
        Check.due("40: has no item", x.item(1, 2, 0), -12);
        Check.due("38: missing, n counts nothing", x.sheet(1, -1, 99), 1);
        Check.due("40: missing", x.item(1, 2, 0), -11);
        Check.due("38: missing again", x.sheet(1, -1, Integer.MIN_VALUE), 1);
        x.sheet(3, 2, 40);
        x.put(3, 0, 7);
        x.sheet(2, 2, 40);
        Check.due("38: the next SHEET stays", x.item(3, 2, 0), 7);
        x.sheet(0, 1, 3);
        x.put(0, 2, 8);
        int[][] bad = {{4, 0, 1}, {-1, 0, 1}, {0, 4, 1}, {0, -2, 1}, {0, 0, 41}, {0, 0, Integer.MAX_VALUE}, {4, -1, 0}, {0, 4, -1}, {-1, 0, -1}};
        for (int[] b : bad) Check.due("38: bad", x.sheet(b[0], b[1], b[2]), -1);
        Check.due("38: below 0", x.sheet(0, 0, -1), -14);
        Check.due("38: below 0", x.sheet(0, 0, Integer.MIN_VALUE), -14);
        Check.due("38: it stays", x.item(0, 1, 2), 8);
    }

    private static void itemsAreNarrowed() {
        LateSeekers x = new LateSeekers();
        for (int sort = 0; sort < 4; sort++) x.sheet(sort, sort, 2);
        int[] put = {128, 255, 256, -129, 32768, 65535, -32769, Integer.MIN_VALUE, Integer.MAX_VALUE, -1, 0, 127};
        for (int v : put) {
            int[] due = {(byte) v, (short) v, v, v};
            for (int sort = 0; sort < 4; sort++) {
                Check.due("39: put " + v, x.put(sort, 1, v), 1);
                Check.due("40: item of sort " + sort, x.item(sort, sort, 1), due[sort]);
                Check.due("39: the other stays", x.item(sort, sort, 0), 0);
            }
        }
    }

    private static void itemsRefused() {
        LateSeekers x = new LateSeekers();
        x.sheet(0, 0, 3);
        for (int odd : ODD_NUMBERS) {
            Check.due("39: no such SHEET", x.put(odd, 0, 1), -1);
            Check.due("39: outside", x.put(0, odd, 1), -12);
            Check.due("40: no such SHEET", x.item(odd, 0, 0), -1);
            Check.due("40: no such sort", x.item(0, odd, 0), -1);
            Check.due("40: outside", x.item(0, 0, odd), -12);
        }
        Check.due("39: SHEET 4", x.put(4, 0, 1), -1);
        Check.due("39: missing before outside", x.put(1, 9, 1), -11);
        Check.due("39: 3", x.put(0, 3, 1), -12);
        Check.due("40: sort 4", x.item(0, 4, 0), -1);
        Check.due("40: bad before missing", x.item(1, 4, 0), -1);
        Check.due("40: missing", x.item(1, 0, 9), -11);
        Check.due("40: another sort before outside", x.item(0, 3, 9), -13);
        Check.due("40: 3", x.item(0, 0, 3), -12);
    }

    private static void shelves() {
        LateSeekers x = Check.parkOf("child at 0; widower at 0; keeper at 0; grandson at 0; scholar at 0; lady at 0;");
        int[][] above = {{0}, {0, 1}, {0, 2}, {0, 1, 3}, {0, 2, 4}, {0, 5}};
        for (int one : KIND_OF) {
            Check.due("41: one", x.shelf(3, 0, one), 1);
            for (int as = 0; as < 6; as++) {
                int due = -13;
                for (int a : above[one]) due = a == as ? one : due;
                Check.due("42: KIND " + one + " as " + as, x.taken(3, as), due);
            }
            for (int as = 10; as <= 13; as++) Check.due("42: one as a row", x.taken(3, as), -13);
        }
        for (int sort = 0; sort < 4; sort++) {
            x.sheet(2, sort, 7 + sort);
            Check.due("41: a row", x.shelf(3, 1, 2), 1);
            for (int as = 10; as <= 13; as++) Check.due("42: a row", x.taken(3, as), as - 10 == sort ? 7 + sort : -13);
            for (int as = 0; as < 6; as++) Check.due("42: a row as a thing", x.taken(3, as), -13);
        }
        x.shelf(3, 0, 5);
        Check.due("42: one in a row's stead", x.taken(3, 5), 5);
        x.shelf(3, 1, 2);
        Check.due("41: nothing", x.shelf(3, 2, 99), 1);
        Check.due("42: nothing", x.taken(3, 0), -11);
        Check.due("42: nothing as a row", x.taken(3, 10), -11);
        x.shelf(3, 0, 1);
        Check.due("41: a missing SHEET's row", x.shelf(3, 1, 0), 1);
        Check.due("42: is nothing", x.taken(3, 10), -11);
        Check.due("42: is nobody", x.taken(3, 0), -11);
    }

    private static void shelvesRefused() {
        LateSeekers x = Check.parkOf("child at 0; child at 0;");
        x.shelf(0, 0, 1);
        int[][] bad = {{4, 0, 0}, {-1, 0, 0}, {0, 3, 0}, {0, -1, 0}, {0, 0, 2}, {0, 0, -1}, {0, 1, 4}, {0, 1, -1}, {4, 2, 0}};
        for (int[] b : bad) Check.due("41: bad", x.shelf(b[0], b[1], b[2]), -1);
        Check.due("41: it stays", x.taken(0, 0), 1);
        for (int as : new int[] {-1, 6, 9, 14, Integer.MIN_VALUE, Integer.MAX_VALUE}) {
            Check.due("42: as " + as, x.taken(0, as), -1);
            Check.due("42: bad before nothing", x.taken(1, as), -1);
        }
        Check.due("42: SHELF 4", x.taken(4, 0), -1);
        Check.due("42: SHELF -1", x.taken(-1, 0), -1);
    }

    private static void shelfHoldsOneByNumber() {
        LateSeekers x = Check.parkOf("child at 0; child at 0 wit 4;");
        x.shelf(0, 0, 1);
        x.mind(1, 5, 7);
        Check.due("42: of its KIND now", x.taken(0, 5), 1);
        Check.due("43: with its WIT now", x.act(0, 1, 0), -2 * 2 - 7);
        Check.feedText(x, "child at 0;");
        x.park();
        Check.due("42: no such one now", x.taken(0, 0), -11);
        Check.due("43: nothing", x.act(0, 0, 7), 0);
        Check.due("44: no TRACE", x.many(6), 0);
        x.person(2, 0, 0, 0, 0);
        Check.due("42: another one of that number", x.taken(0, 2), 1);
    }

    private static void shelfHoldsTheRow() {
        LateSeekers x = new LateSeekers();
        x.sheet(0, 1, 5);
        x.shelf(0, 1, 0);
        x.sheet(0, 2, 9);
        Check.due("42: the row that it was", x.taken(0, 11), 5);
        x.sheet(0, -1, 0);
        Check.due("42: the row still", x.taken(0, 11), 5);
        Check.due("42: of that sort", x.taken(0, 12), -13);
    }

    private static void traced(LateSeekers x, String call, int... due) {
        Check.due("45: bodies of " + call, x.many(6), due.length);
        for (int i = 0; i < due.length; i++) Check.due("44: " + call + " body " + i, x.trace(i), due[i]);
        Check.due("44: behind " + call, x.trace(due.length), -3);
    }

    /** n 1, a 4 for all, so that the numbers can be told by hand. */
    private static void actsOfKinds() {
        LateSeekers x = Check.parkOf("child at 0; child at 0 wit 4;");
        x.shelf(2, 0, 1);
        Check.due("43: child counts", x.act(2, 0, 10), 8);
        traced(x, "child counts", 10);
        Check.due("43: child calls", x.act(2, 1, 10), 12);
        traced(x, "child calls", 11, 10);
        Check.due("43: child parts", x.act(2, 2, -10), -3);
        traced(x, "child parts", 12);
        Check.due("43: child looks", x.act(2, 3, 11), 14 ^ 12);
        traced(x, "child looks", 13, 11, 10);
        x.mind(1, 1, 4);
        Check.due("43: widower calls", x.act(2, 1, 10), 17);
        traced(x, "widower calls", 20, 11, 10);
        Check.due("43: widower looks", x.act(2, 3, 10), 17 ^ 12);
        traced(x, "widower looks", 13, 20, 11, 10);
        x.mind(1, 2, 4);
        Check.due("43: keeper counts", x.act(2, 0, 11), 9 ^ 3);
        traced(x, "keeper counts", 30, 10);
        Check.due("43: keeper looks", x.act(2, 3, 11), (10 * 2 - 4 ^ 12) - 0);
        traced(x, "keeper looks", 31, 13, 11, 30, 10, 12);
        x.mind(1, 3, 4);
        Check.due("43: grandson parts", x.act(2, 2, 12), 10);
        traced(x, "grandson parts", 50, 12);
        Check.due("43: grandson counts", x.act(2, 0, 12), 9);
        traced(x, "grandson counts", 51, 10);
        Check.due("43: grandson looks", x.act(2, 3, 12), 9 * 2 - 4 + 5 ^ 12);
        traced(x, "grandson looks", 13, 20, 11, 51, 10);
        x.mind(1, 4, 4);
        Check.due("43: scholar counts", x.act(2, 0, 11), 1 - (9 ^ 3));
        traced(x, "scholar counts", 40, 30, 10);
        // counts(11) is -9, counts(4) is 1 - (2 ^ 3) = 0
        Check.due("43: scholar calls", x.act(2, 1, 11), -9 * 2 - 4 + 0);
        traced(x, "scholar calls", 41, 11, 40, 30, 10, 40, 30, 10);
        Check.due("43: scholar looks", x.act(2, 3, 11), (-22 ^ 12) - 0);
        traced(x, "scholar looks", 31, 13, 41, 11, 40, 30, 10, 40, 30, 10, 12);
        x.mind(1, 4, 2);
        // counts(2) is 1 - (0 ^ 3) = -2, counts(11) is -9
        Check.due("43: scholar calls with wit 2", x.act(2, 1, 11), -9 * 2 - 2 + -2);
        Check.due("43: scholar looks with wit 2", x.act(2, 3, 11), (-22 ^ 12) - 1);
        x.mind(1, 5, 4);
        Check.due("43: lady looks", x.act(2, 3, 11), (14 ^ 12) * 3);
        traced(x, "lady looks", 60, 13, 11, 10);
        Check.due("43: lady parts", x.act(2, 2, 11), 3 ^ -1);
        traced(x, "lady parts", 61, 12, 10);
        Check.due("44: -1", x.trace(-1), -3);
        Check.due("44: least", x.trace(Integer.MIN_VALUE), -3);
        Check.due("44: most", x.trace(Integer.MAX_VALUE), -3);
    }

    private static void actsParted() {
        LateSeekers x = Check.parkOf("child at 0; child at 0 wit 1;");
        x.shelf(0, 0, 1);
        Check.due("43: child parts by 0", x.act(0, 2, 7), -15);
        traced(x, "child parts by 0", 12);
        x.mind(1, 3, 1);
        Check.due("43: grandson parts by 0", x.act(0, 2, 7), -15);
        traced(x, "grandson parts by 0", 50, 12);
        x.mind(1, 5, 1);
        Check.due("43: lady parts by 0", x.act(0, 2, 7), -15);
        traced(x, "lady parts by 0", 61, 12);
        x.mind(1, 2, 1);
        Check.due("43: keeper looks by 0", x.act(0, 3, 7), -15);
        traced(x, "keeper looks by 0", 31, 13, 11, 30, 10, 12);
        Check.due("43: it acts again", x.act(0, 0, 7), 5 ^ 3);
        traced(x, "keeper counts", 30, 10);
    }

    private static void actsWrap() {
        LateSeekers x = Check.parkOf("child at 0; child at 0;");
        x.shelf(0, 0, 1);
        Check.due("43: least by -1", x.act(0, 2, Integer.MIN_VALUE), Integer.MIN_VALUE);
        Check.due("43: counts wraps", x.act(0, 0, Integer.MIN_VALUE), Integer.MAX_VALUE - 1);
        Check.due("43: calls wraps", x.act(0, 1, Integer.MAX_VALUE), -6);
    }

    private static void actsRefused() {
        LateSeekers x = Check.parkOf("child at 0 wit 4;");
        x.shelf(0, 0, 0);
        x.sheet(0, 0, 3);
        x.shelf(1, 1, 0);
        int[][] bad = {{-1, 0}, {4, 0}, {0, -1}, {0, 4}, {1, 0}, {2, 0}, {Integer.MAX_VALUE, 0}, {0, Integer.MIN_VALUE}};
        for (int[] b : bad) {
            Check.due("43: acts", x.act(0, 1, 7), 10);
            Check.due("45: TRACE", x.many(6), 2);
            Check.due("43: refused", x.act(b[0], b[1], 7), 0);
            Check.due("43: no TRACE", x.many(6), 0);
            Check.due("44: no TRACE", x.trace(0), -3);
        }
    }

    private static void counts() {
        LateSeekers x = Check.parkOf("child at 3; child at 3 seeks; lady at 3; keeper at 11; lady at 5 seeks; lady at 5 seeks; lady at 3;");
        x.feed(0, 5);
        x.prove(0, 4);
        x.shelf(0, 0, 0);
        x.act(0, 3, 1);
        int[] due = {7, 4, 2, 6, 4, 5, 3};
        for (int what = 0; what < 7; what++) Check.due("45: many(" + what + ")", x.many(what), due[what]);
        Check.due("45: 7", x.many(7), -1);
        Check.due("45: -1", x.many(-1), -1);
    }

    private static void kept() {
        LateSeekers x = Check.parkOf("child at 3 age 4 wit 5; child at 2 wit 9 seeks; cover 3 is 0; out 70; dark 3; lamp 4; peep 5;");
        x.years(3);
        Check.due("46: 1 has found 0", x.of(1, 5), 1);
        x.seed(11);
        x.prove(0, 3);
        Check.due("46: kept", x.keep(), 1);
        int[][] before = new int[2][6];
        for (int i = 0; i < 2; i++) for (int what = 0; what < 6; what++) before[i][what] = x.of(i, what);
        x.years(30);
        x.person(0, 0, 0, 0, 0);
        x.mind(0, 5, 1);
        x.cover(3, 9);
        x.set(0, 0);
        x.set(1, 0);
        x.set(2, 0);
        x.set(3, 0);
        x.seed(5);
        x.feed(0, 3);
        x.prove(1, 7);
        x.sheet(0, 0, 4);
        x.shelf(0, 0, 1);
        x.act(0, 0, 1);
        for (int turn = 0; turn < 2; turn++) {
            Check.due("47: two", x.again(), 2);
            for (int i = 0; i < 2; i++) {
                for (int what = 0; what < 6; what++) Check.due("47: of(" + i + ", " + what + ")", x.of(i, what), before[i][what]);
            }
            int[] laws = {70, 3, 4, 5};
            for (int law = 0; law < 4; law++) Check.due("47: law", x.lawOf(law), laws[law]);
            Check.due("47: COVER", x.place(3, 0), 0);
            Check.due("47: YEAR", x.state(0), 3);
            Check.due("47: z", x.seed(6), 11);
            Check.due("47: THE TAPE stays", x.many(5), 3);
            Check.due("47: ROWS stay", x.many(4), 7);
            Check.due("47: SHEETS stay", x.item(0, 0, 3), 0);
            Check.due("47: SHELVES stay", x.taken(0, 0), 1);
            Check.due("47: THE TRACE stays", x.many(6), 1);
            x.years(1);
        }
        Check.due("3: three bytes 0", x.park(), -100);
        Check.due("3: the tape is empty then", x.park(), 0);
        x.person(0, 0, 0, 0, 0);
        Check.due("46: anew", x.keep(), 1);
        x.person(0, 0, 0, 0, 0);
        Check.due("47: the latest", x.again(), 1);
    }
}
