/** Promises 2 and 3: THE TAPE and its TEXT. */
final class TextTests {
    private TextTests() {
    }

    public static void main(String[] args) {
        feedTakesTheLowestFirst();
        feedRefuses();
        parkTakesAll();
        parkBringsAllToAsAtFirst();
        parkKeepsTheRest();
        blanksAndRows();
        faultsOfPeople();
        faultsOfLawsAndCover();
        faultsOfBytes();
        faultChangesNothing();
        ninthOne();
        Check.end();
    }

    private static void fault(String text, int place) {
        LateSeekers x = new LateSeekers();
        Check.feedText(x, text);
        Check.due("park() of '" + text + "'", x.park(), -100 - place);
        Check.due("tape used up by '" + text + "'", x.many(5), 0);
    }

    private static void feedTakesTheLowestFirst() {
        LateSeekers x = new LateSeekers();
        // "out 7;" with the lowest byte first, and rubbish above the six bytes that count
        long eight = 0;
        String text = "out 7;";
        for (int i = text.length() - 1; i >= 0; i--) eight = eight << 8 | text.charAt(i);
        Check.due("2: feed six", x.feed(eight | 0xffffL << 48, 6), 6);
        Check.due("2: many(5)", x.many(5), 6);
        Check.due("2: park()", x.park(), 0);
        Check.due("2: lawOf(0)", x.lawOf(0), 7);
    }

    private static void feedRefuses() {
        LateSeekers x = new LateSeekers();
        Check.due("2: n 0", x.feed(32, 0), -1);
        Check.due("2: n 9", x.feed(32, 9), -1);
        Check.due("2: n -1", x.feed(32, -1), -1);
        Check.due("2: n least", x.feed(32, Integer.MIN_VALUE), -1);
        for (int i = 1; i <= 24; i++) Check.due("2: eight", x.feed(0x2020202020202020L, 8), 8 * i);
        Check.due("2: 199", x.feed(0x2020202020202020L, 7), 199);
        Check.due("2: 201", x.feed(0x2020L, 2), -2);
        Check.due("2: nothing came", x.many(5), 199);
        Check.due("2: 200", x.feed(0x20L, 1), 200);
        Check.due("2: full", x.feed(0x20L, 1), -2);
        Check.due("2: bad before full", x.feed(0x20L, 9), -1);
        Check.due("3: 200 blanks", x.park(), 0);
        Check.due("2: anew", x.feed(0x20L, 1), 1);
    }

    private static void parkTakesAll() {
        LateSeekers x = Check.parkOf("child at 3 age 9 wit 4; widower at 11; keeper at 0 seeks; grandson at 1 wit 9;"
                + "scholar at 2 age 99 seeks; lady at 5 age 1 wit 2 seeks; cover 11 is 9; out 99; dark 9; lamp 0; peep 99;");
        int[][] due = {{0, 9, 4, 3, 1, 0}, {1, 0, 0, 11, 1, 0}, {2, 0, 0, 0, 0, 0}, {3, 0, 9, 1, 1, 0},
            {4, 99, 0, 2, 0, 0}, {5, 1, 2, 5, 0, 0}};
        for (int i = 0; i < due.length; i++) {
            for (int what = 0; what < 6; what++) Check.due("3: of(" + i + ", " + what + ")", x.of(i, what), due[i][what]);
        }
        Check.due("3: people", x.many(0), 6);
        Check.due("3: cover of 11", x.place(11, 0), 9);
        Check.due("3: cover of 10", x.place(10, 0), 3);
        int[] laws = {99, 9, 0, 99};
        for (int law = 0; law < 4; law++) Check.due("3: law " + law, x.lawOf(law), laws[law]);
    }

    private static void parkBringsAllToAsAtFirst() {
        LateSeekers x = new LateSeekers();
        for (int i = 0; i < 8; i++) x.person(5, 50, 3, 4, i % 2);
        x.cover(4, 8);
        x.set(0, 90);
        x.set(1, 5);
        x.set(2, 5);
        x.set(3, 5);
        x.years(5);
        x.prove(0, 3);
        Check.feedText(x, "lamp 3; lamp 4; lady at 2;");
        Check.due("3: one", x.park(), 1);
        Check.due("3: one HIDDEN", x.state(1), 1);
        Check.due("3: one HIDDEN", x.many(1), 1);
        Check.due("3: YEAR", x.state(0), 0);
        Check.due("3: OUT", x.lawOf(0), 60);
        Check.due("3: DARK", x.lawOf(1), 2);
        Check.due("3: LAMP told twice", x.lawOf(2), 4);
        Check.due("3: PEEP", x.lawOf(3), 20);
        Check.due("3: COVER", x.state(5), 36);
        Check.due("3: no ROWS", x.many(4), 0);
        Check.due("3: row", x.row(0, 0), -9);
        Check.due("3: empty tape", x.park(), 0);
        Check.due("3: nobody", x.many(0), 0);
    }

    private static void parkKeepsTheRest() {
        LateSeekers x = new LateSeekers();
        x.seed(77);
        x.person(0, 0, 3, 0, 0);
        x.keep();
        x.sheet(1, 0, 5);
        x.shelf(0, 1, 1);
        x.shelf(1, 0, 0);
        x.act(1, 0, 5);
        Check.due("3: nobody", x.park(), 0);
        Check.due("3: z stays", x.seed(77), 77);
        Check.due("3: sheet stays", x.item(1, 0, 4), 0);
        Check.due("3: shelf stays", x.taken(0, 10), 5);
        Check.due("3: trace stays", x.trace(0), 10);
        Check.due("3: nobody on the shelf", x.taken(1, 0), -11);
        Check.due("3: what was kept stays", x.again(), 1);
        Check.due("3: somebody on the shelf again", x.taken(1, 0), 0);
    }

    private static void blanksAndRows() {
        LateSeekers x = Check.parkOf("  child  at3age7wit 2seeks;cover0is 0 ;out007;  ");
        Check.due("3: AT", x.of(0, 3), 3);
        Check.due("3: AGE", x.of(0, 1), 7);
        Check.due("3: WIT", x.of(0, 2), 2);
        Check.due("3: SEEKS", x.of(0, 4), 0);
        Check.due("3: COVER", x.place(0, 0), 0);
        Check.due("3: OUT", x.lawOf(0), 7);
        fault("childat 3;", 0);
        fault("child at 3 ageseeks;", 11);
        fault("child at 1 1;", 11);
        fault("child at 3 seek s;", 11);
    }

    private static void faultsOfPeople() {
        fault("chil", 0);
        fault("ladyz at 3;", 0);
        fault("lady ata 3;", 5);
        fault("lady at 3 zzz;", 10);
        fault("children at 3;", 0);
        fault("child", 5);
        fault("child  ", 7);
        fault("child at", 8);
        fault("child at 3", 10);
        fault("child at 3 age", 14);
        fault("child at 3 age 4", 16);
        fault("child at 3 wit", 14);
        fault("child at 3 seeks", 16);
        fault("child at 12;", 9);
        fault("child at 0003;", 9);
        fault("child at x;", 9);
        fault("child at ;", 9);
        fault("child 3;", 6);
        fault("child on 3;", 6);
        fault("child at 3 age 100;", 15);
        fault("child at 3 wit 10;", 15);
        fault("child at 3 wit 1 age 2;", 17);
        fault("child at 3 age 1 age 2;", 17);
        fault("child at 3 seeks wit 2;", 17);
        fault("child at 3 seeks seeks;", 17);
        fault("child at 3 seeks child at 4;", 17);
        fault("child at 3;;", 11);
        fault("at 3;", 0);
        fault("lady at 1; knave at 3;", 11);
        fault("3 child;", 0);
    }

    private static void faultsOfLawsAndCover() {
        fault("out 100;", 4);
        fault("dark 10;", 5);
        fault("lamp 10;", 5);
        fault("peep 100;", 5);
        fault("peep 1000;", 5);
        fault("peep;", 4);
        fault("peep 3", 6);
        fault("peep 3 4;", 7);
        fault("cover 12 is 3;", 6);
        fault("cover 3 4;", 8);
        fault("cover 3 at 4;", 8);
        fault("cover 3 is 10;", 11);
        fault("cover 3 is;", 10);
        fault("cover is 3;", 6);
        fault("cover 3 is 4", 12);
        fault("out 3; dark", 11);
    }

    private static void faultsOfBytes() {
        fault(";", 0);
        fault("out\t3;", 3);
        fault("out 3;\n", 6);
        fault("Out 3;", 0);
        fault("out -3;", 4);
        fault("out 3" + (char) 0 + ";", 5);
        fault("out 3;" + (char) 200, 6);
        fault("o" + (char) 233 + "ut 3;", 0);
    }

    private static void faultChangesNothing() {
        LateSeekers x = Check.parkOf("child at 3; out 50;");
        x.prove(0, 4);
        x.years(1);
        Check.feedText(x, "lady at 1; out 3; cover 1 is 1; knave");
        Check.due("3: fault", x.park(), -132);
        Check.due("3: one still", x.many(0), 1);
        Check.due("3: OUT still", x.lawOf(0), 50);
        Check.due("3: COVER still", x.place(1, 0), 3);
        Check.due("3: YEAR still", x.state(0), 1);
        Check.due("3: ROWS still", x.many(4), 4);
        Check.due("3: the tape is used up", x.many(5), 0);
    }

    private static void ninthOne() {
        StringBuilder text = new StringBuilder();
        for (int i = 0; i < 8; i++) text.append("child at 0;");
        LateSeekers x = Check.parkOf(text.toString());
        Check.due("3: eight", x.many(0), 8);
        fault(text + "child at 99;", 88);
        fault(text + " lady", 89);
        LateSeekers y = Check.parkOf(text + "peep 3;");
        Check.due("3: law behind eight", y.lawOf(3), 3);
    }
}
