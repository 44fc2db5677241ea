/** Promises 1 and 4 to 15 and 19: LAWS, PEOPLE, PLACES and YEARS. */
final class PeopleTests {
    private static final int[] ODD_NUMBERS = {-1, Integer.MIN_VALUE, Integer.MAX_VALUE};

    private PeopleTests() {
    }

    public static void main(String[] args) {
        newObject();
        laws();
        personIsTaken();
        personIsRefused();
        whatEachKindDoes();
        changesOfOne();
        wrongChangesOfOne();
        places();
        yearAgesAndComesOut();
        yearFinds();
        foundInTheSameYear();
        findsAreNinetyNineAtMost();
        stridesGoRound();
        yearsRefused();
        states();
        Check.end();
    }

    private static void newObject() {
        LateSeekers x = new LateSeekers();
        for (int what = 0; what <= 6; what++) Check.due("1: many(" + what + ")", x.many(what), 0);
        int[] laws = {60, 2, 1, 20};
        for (int law = 0; law < 4; law++) Check.due("1: lawOf(" + law + ")", x.lawOf(law), laws[law]);
        for (int place = 0; place < 12; place++) Check.due("1: cover of " + place, x.place(place, 0), 3);
        Check.due("1: YEAR", x.state(0), 0);
        Check.due("1: nothing is kept", x.again(), -3);
        Check.due("1: z", x.seed(5), 1);
        for (int i = 0; i < 4; i++) {
            Check.due("1: sheet missing", x.item(i, 0, 0), -11);
            Check.due("1: shelf empty", x.taken(i, 0), -11);
        }
        Check.due("1: nobody", x.of(0, 0), -1);
    }

    private static void laws() {
        LateSeekers x = new LateSeekers();
        int[] most = {99, 9, 9, 99};
        int[] first = {60, 2, 1, 20};
        for (int law = 0; law < 4; law++) {
            Check.due("4: most", x.set(law, most[law]), first[law]);
            Check.due("4: above", x.set(law, most[law] + 1), -1);
            Check.due("4: below", x.set(law, -1), -1);
            Check.due("5: stays", x.lawOf(law), most[law]);
            Check.due("4: least", x.set(law, 0), most[law]);
            Check.due("5: least", x.lawOf(law), 0);
        }
        for (int law : new int[] {-1, 4, Integer.MIN_VALUE, Integer.MAX_VALUE}) {
            Check.due("4: no such", x.set(law, 1), -1);
            Check.due("5: no such", x.lawOf(law), -1);
        }
    }

    private static void personIsTaken() {
        LateSeekers x = new LateSeekers();
        Check.due("6: first", x.person(5, 99, 9, 11, 1), 0);
        Check.due("6: second", x.person(3, 0, 0, 0, 0), 1);
        int[][] due = {{5, 99, 9, 11, 0, 0}, {3, 0, 0, 0, 1, 0}};
        for (int i = 0; i < 2; i++) {
            for (int what = 0; what < 6; what++) Check.due("7: of(" + i + ", " + what + ")", x.of(i, what), due[i][what]);
        }
        for (int i = 2; i < 8; i++) Check.due("6: next", x.person(0, 1, 2, 3, 0), i);
        Check.due("6: ninth", x.person(0, 1, 2, 3, 0), -2);
        Check.due("6: bad before full", x.person(6, 1, 2, 3, 0), -1);
        Check.due("6: eight", x.many(0), 8);
        Check.due("7: what 6", x.of(0, 6), -1);
        Check.due("7: what -1", x.of(0, -1), -1);
        Check.due("7: eighth", x.of(8, 0), -1);
        Check.due("7: below", x.of(-1, 0), -1);
    }

    private static void personIsRefused() {
        LateSeekers x = new LateSeekers();
        int[] above = {6, 100, 10, 12, 2};
        for (int part = 0; part < 5; part++) {
            for (int bad : new int[] {-1, above[part], Integer.MIN_VALUE, Integer.MAX_VALUE}) {
                int[] v = {1, 1, 1, 1, 1};
                v[part] = bad;
                Check.due("6: part " + part + " is " + bad, x.person(v[0], v[1], v[2], v[3], v[4]), -1);
            }
        }
        Check.due("6: nobody came", x.many(0), 0);
    }

    private static void whatEachKindDoes() {
        LateSeekers x = new LateSeekers();
        x.set(1, 5);
        x.set(2, 7);
        x.cover(4, 6);
        for (int kind = 0; kind < 6; kind++) x.person(kind, 39, 5, 4, kind % 2);
        int[] hides = {11, 5, 8, 7, 11, 16};
        int[] sees = {8, 15, 12, 30, 7, 8};
        int[] strides = {1, 2, -1, 3, -2, 0};
        for (int kind = 0; kind < 6; kind++) {
            Check.due("8: HIDES " + kind, x.does(kind, 0), 1000 + hides[kind]);
            Check.due("8: SEES " + kind, x.does(kind, 1), 1000 + sees[kind]);
            Check.due("8: STRIDES " + kind, x.does(kind, 2), 1000 + strides[kind]);
        }
        Check.due("8: what 3", x.does(0, 3), -1);
        Check.due("8: what -1", x.does(0, -1), -1);
        Check.due("8: nobody", x.does(6, 0), -1);
        x.cover(4, 0);
        x.mind(2, 2, 0);
        Check.due("8: below 0", x.does(2, 0), 997);
        x.set(1, 9);
        x.mind(4, 4, 0);
        Check.due("8: sees below 0", x.does(4, 1), 998);
        x.years(1);
        Check.due("8: lady in an odd YEAR", x.does(5, 1), 1000);
        x.years(1);
        Check.due("8: lady in an even YEAR", x.does(5, 1), 1008);
    }

    private static void changesOfOne() {
        LateSeekers x = new LateSeekers();
        x.person(1, 7, 3, 5, 0);
        Check.due("9: was", x.mind(0, 4, 9), 1);
        Check.due("9: is", x.of(0, 0), 4);
        Check.due("9: wit", x.of(0, 2), 9);
        Check.due("9: the same again", x.mind(0, 4, 0), 4);
        Check.due("9: wit 0", x.of(0, 2), 0);
        Check.due("10: was", x.age(0, 99), 7);
        Check.due("10: is", x.age(0, 0), 99);
        Check.due("10: stays HIDDEN", x.of(0, 4), 1);
        Check.due("11: was", x.bring(0, 11), 5);
        Check.due("11: is", x.bring(0, 0), 11);
        Check.due("12: hid", x.seek(0, 1), 0);
        Check.due("12: SEEKS", x.of(0, 4), 0);
        Check.due("12: sought", x.seek(0, 1), 1);
        Check.due("12: sought still", x.seek(0, 0), 1);
        Check.due("12: HIDDEN", x.of(0, 4), 1);
        Check.due("12: hid again", x.seek(0, 0), 0);
    }

    private static void wrongChangesOfOne() {
        LateSeekers x = new LateSeekers();
        x.person(1, 7, 3, 5, 0);
        for (int odd : ODD_NUMBERS) {
            Check.due("9: nobody", x.mind(odd, 0, 0), -1);
            Check.due("9: kind", x.mind(0, odd, 0), -1);
            Check.due("9: wit", x.mind(0, 0, odd), -1);
            Check.due("10: nobody", x.age(odd, 0), -1);
            Check.due("10: age", x.age(0, odd), -1);
            Check.due("11: nobody", x.bring(odd, 0), -1);
            Check.due("11: place", x.bring(0, odd), -1);
            Check.due("12: nobody", x.seek(odd, 0), -1);
            Check.due("12: v", x.seek(0, odd), -1);
        }
        Check.due("9: one above", x.mind(1, 0, 0), -1);
        Check.due("9: kind 6", x.mind(0, 6, 0), -1);
        Check.due("9: wit 10", x.mind(0, 0, 10), -1);
        Check.due("10: one above", x.age(1, 0), -1);
        Check.due("10: 100", x.age(0, 100), -1);
        Check.due("11: one above", x.bring(1, 0), -1);
        Check.due("11: 12", x.bring(0, 12), -1);
        Check.due("12: one above", x.seek(1, 0), -1);
        Check.due("12: 2", x.seek(0, 2), -1);
        int[] due = {1, 7, 3, 5, 1, 0};
        for (int what = 0; what < 6; what++) Check.due("9 to 12: nothing changed", x.of(0, what), due[what]);
    }

    private static void places() {
        LateSeekers x = Check.parkOf("child at 3; child at 3 seeks; lady at 3; keeper at 11 seeks;");
        Check.due("13: who", x.place(3, 1), 7);
        Check.due("13: HELD", x.place(3, 2), 2);
        Check.due("13: who at 11", x.place(11, 1), 8);
        Check.due("13: HELD at 11", x.place(11, 2), 0);
        Check.due("13: nobody", x.place(0, 1), 0);
        Check.due("14: was", x.cover(11, 9), 3);
        Check.due("14: is", x.cover(11, 0), 9);
        Check.due("13: COVER", x.place(11, 0), 0);
        Check.due("13: what 3", x.place(0, 3), -1);
        Check.due("13: what -1", x.place(0, -1), -1);
        Check.due("14: 10", x.cover(0, 10), -1);
        Check.due("14: -1", x.cover(0, -1), -1);
        for (int place : new int[] {-1, 12, Integer.MIN_VALUE, Integer.MAX_VALUE}) {
            Check.due("13: no such", x.place(place, 0), -1);
            Check.due("14: no such", x.cover(place, 0), -1);
        }
    }

    private static void yearAgesAndComesOut() {
        LateSeekers x = Check.parkOf("child at 0 age 58; child at 5 age 99; out 60;");
        Check.due("15: one is HIDDEN", x.years(1), 1);
        Check.due("15: AGE", x.of(0, 1), 59);
        Check.due("15: AGE at most", x.of(1, 1), 99);
        Check.due("15: came out and went", x.of(1, 3), 6);
        Check.due("15: nobody is HIDDEN", x.years(1), 0);
        Check.due("15: went in its first YEAR", x.of(0, 3), 1);
        Check.due("15: YEAR", x.state(0), 2);
    }

    private static void yearFinds() {
        // 0 hides 3 + 3; a child of wit 3 sees 6, which is not more, one of wit 4 sees 7
        LateSeekers x = Check.parkOf("child at 4 wit 3; child at 4; child at 3 wit 3 seeks;");
        Check.due("15: still two", x.years(1), 2);
        Check.due("15: the least that is seen is found", x.state(1), 0b101);
        Check.due("15: FINDS", x.of(2, 5), 1);
        LateSeekers y = Check.parkOf("child at 4 wit 3; child at 4; child at 3 wit 4 seeks;");
        y.years(1);
        Check.due("15: the least number, not who hides worst", y.state(1), 0b110);
        Check.due("15: the found one stays", y.of(0, 3), 4);
        y.years(1);
        Check.due("15: it goes in the next YEAR", y.of(0, 3), 5);
        // the found one has a higher number and does not go in the same YEAR
        LateSeekers z = Check.parkOf("child at 3 wit 9 seeks; child at 4;");
        z.years(1);
        Check.due("15: found", z.state(1), 0b01);
        Check.due("15: AT", z.of(1, 3), 4);
        // HIDES is by the PLACE AT which the hidden one is, SEES by the seeker
        LateSeekers w = Check.parkOf("child at 4; widower at 2 seeks; cover 4 is 4;");
        w.years(1);
        Check.due("15: 4 is not below 3 + 0 + 1", w.state(1), 0b01);
        w = Check.parkOf("child at 4; widower at 2 seeks; cover 4 is 3;");
        w.years(1);
        Check.due("15: 3 is below 3 + 0 + 1", w.state(1), 0b10);
    }

    private static void foundInTheSameYear() {
        // 0 finds 2 and is HIDDEN; then 1 comes to the same PLACE and finds 0
        LateSeekers x = Check.parkOf("child at 3 wit 1 seeks; widower at 2 wit 9 seeks; child at 4; ");
        Check.due("15: one is HIDDEN", x.years(1), 1);
        Check.due("15: it is 1", x.state(1), 0b010);
        Check.due("15: 0 found", x.of(0, 5), 1);
        Check.due("15: 1 found", x.of(1, 5), 1);
        Check.due("15: 0 and 2 AT 4", x.place(4, 1), 0b111);
    }

    private static void findsAreNinetyNineAtMost() {
        // two ladies stay and find each other by turns, in even YEARS: 15 times each in 60
        LateSeekers x = Check.parkOf("lady at 0 seeks; lady at 0; cover 0 is 0; dark 0; out 99;");
        for (int i = 1; i <= 7; i++) {
            x.age(0, 0);
            x.age(1, 0);
            Check.due("15: one is HIDDEN", x.years(60), 1);
            Check.due("15: FINDS of 0", x.of(0, 5), Math.min(99, 15 * i));
            Check.due("15: FINDS of 1", x.of(1, 5), Math.min(99, 15 * i));
        }
        Check.due("19: FINDS of all", x.state(3), 198);
    }

    private static void stridesGoRound() {
        int[] behind = {0, 1, 10, 2, 9, 11};
        for (int kind = 0; kind < 6; kind++) {
            LateSeekers x = new LateSeekers();
            x.person(kind, 0, 0, 11, 1);
            x.years(1);
            Check.due("15: round from 11, KIND " + kind, x.of(0, 3), behind[kind]);
        }
        LateSeekers x = Check.parkOf("scholar at 1 seeks; keeper at 0 seeks;");
        x.years(1);
        Check.due("15: back over 0 by 2", x.of(0, 3), 11);
        Check.due("15: back over 0 by 1", x.of(1, 3), 11);
    }

    private static void yearsRefused() {
        LateSeekers x = Check.parkOf("child at 1;");
        for (int n : new int[] {0, -1, 61, Integer.MIN_VALUE, Integer.MAX_VALUE}) Check.due("15: n " + n, x.years(n), -1);
        Check.due("15: no YEAR went", x.state(0), 0);
        Check.due("15: sixty", x.years(60), 0);
        Check.due("15: sixty went", x.state(0), 60);
    }

    private static void states() {
        LateSeekers x = Check.parkOf("child at 3 age 5; child at 3 age 6 seeks; lady at 3 age 7; keeper at 11 age 99; cover 0 is 9;");
        int[] due = {0, 0b1101, 117, 0, 1 << 3 | 1 << 11, 42};
        for (int what = 0; what < 6; what++) Check.due("19: state(" + what + ")", x.state(what), due[what]);
        Check.due("19: 6", x.state(6), -1);
        Check.due("19: -1", x.state(-1), -1);
        x.years(2);
        Check.due("19: YEAR", x.state(0), 2);
        Check.due("19: AGE", x.state(2), 123);
        // of those who were there before, nothing is left behind a text
        LateSeekers y = Check.parkOf("lady at 0 age 5 seeks; lady at 0 age 6; cover 0 is 0; dark 0;");
        y.years(3);
        Check.due("19: FINDS", y.state(3), 2);
        Check.feedText(y, "lady at 3 age 8 seeks;");
        y.park();
        int[] alone = {0, 0, 8, 0, 0, 36};
        for (int what = 0; what < 6; what++) Check.due("19: state(" + what + ") of one", y.state(what), alone[what]);
        Check.due("7: FINDS anew", y.of(0, 5), 0);
        Check.due("13: who", y.place(0, 1), 0);
        Check.due("45: together", y.many(3), 0);
        y.person(0, 1, 1, 1, 0);
        Check.due("7: FINDS of a new one", y.of(1, 5), 0);
    }
}
