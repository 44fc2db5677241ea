/** Terms 2: THE TAPE, its TEXT and its FAULTS. */
final class TextEdges {
    private TextEdges() {
    }

    static void run() {
        Doc.section("terms 2");
        tape();
        text();
        people();
        coverAndLaws();
        allByItAlone();
        names();
        numbers();
        blanks();
        faultPlaces();
        faultNumbers();
        faultNinth();
        faultEnd();
    }

    private static void tape() {
        Doc.says("THE TAPE takes bytes, 200 at most;");
        Play p = new Play().feed(" ".repeat(198)).is(198, "many", 5).asked(-2, "feed", ' ', 3)
            .due(200, "feed", ' ' | ' ' << 8, 2);
        p.asked(-2, "feed", ' ', 1).asked(-2, "feed", ' ', 8).is(200, "many", 5).due(0, "park").due(1, "feed", ' ', 1);
        // the 200th byte counts
        new Play().feed(" ".repeat(193) + "peep 7;").is(200, "many", 5).due(0, "park").is(7, "lawOf", 3);
        new Play().feed("lady at 5;" + " ".repeat(189) + "x").due(-299, "park");
        new Play().feed(" ".repeat(196) + "peep").due(-300, "park");
        Doc.says("park() uses it up.");
        new Play().feed("lady at 5;").due(1, "park").is(0, "many", 5).due(0, "park").is(0, "many", 0);
        new Play().feed("lady at 5; x").due(-111, "park").is(0, "many", 5).due(0, "park");
    }

    private static void text() {
        Doc.says("TEXT: { KIND at N [ age N ] [ wit N ] [ seeks ] ; | cover N is N ; | out N ; | dark N ; | lamp N ; | "
            + "peep N ; }");
        new Play().due(0, "park");
        new Play().feed("   ").due(0, "park");
        String[] stand = {"lady at 3;", "lady at 3 age 1;", "lady at 3 wit 1;", "lady at 3 seeks;", "lady at 3 age 1 wit 1;",
            "lady at 3 age 1 seeks;", "lady at 3 wit 1 seeks;", "lady at 3 age 1 wit 1 seeks;"};
        for (String s : stand) {
            new Play().feed(s).due(1, "park")
                .one(0, 5, s.contains("age") ? 1 : 0, s.contains("wit") ? 1 : 0, 3, s.contains("seeks") ? 0 : 1, 0);
        }
        String[] laws = {"cover 3 is 1;", "out 1;", "dark 1;", "lamp 1;", "peep 1;"};
        for (String s : laws) new Play().feed(s).due(0, "park");
        Play.of(String.join("", laws) + stand[0]).is(1, "lawOf", 0).is(1, "lawOf", 1).is(1, "lawOf", 2).is(1, "lawOf", 3)
            .is(1, "place", 3, 0).is(1, "many", 0);
        // in that order, each once at most
        fault("lady at 3 wit 1 age 1;", 16);
        fault("lady at 3 seeks wit 1;", 16);
        fault("lady at 3 seeks age 1;", 16);
        fault("lady at 3 age 1 age 1;", 16);
        fault("lady at 3 wit 1 wit 1;", 16);
        fault("lady at 3 seeks seeks;", 16);
        fault("lady age 1 at 3;", 5);
        fault("lady wit 1;", 5);
        fault("lady;", 4);
        fault("lady at 3 4;", 10);
        fault("lady at 3 at 4;", 10);
        fault("lady at 3 cover 3 is 1;", 10);
        fault("lady at 3;;", 10);
        fault(";", 0);
        fault("cover 3;", 7);
        fault("cover 3 is 1 is 1;", 13);
        fault("cover is 1;", 6);
        fault("cover at 3 is 1;", 6);
        fault("out;", 3);
        fault("out 1 2;", 6);
        fault("out is 1;", 4);
        fault("out 1 dark 1;", 6);
        fault("at 3;", 0);
        fault("age 3;", 0);
        fault("seeks;", 0);
        fault("is 3;", 0);
    }

    private static void fault(String text, int place) {
        new Play().faulty(text, place);
    }

    private static void people() {
        Doc.says("KIND (child | widower | keeper | grandson | scholar | lady): one more AT a PLACE;");
        Play p = Play.of("child at 0; widower at 11; keeper at 1; grandson at 10; scholar at 2; lady at 9;").is(6, "many", 0);
        int[] at = {0, 11, 1, 10, 2, 9};
        int[] kind = {0, 1, 2, 3, 4, 5};
        for (int i = 0; i < 6; i++) p.one(i, kind[i], 0, 0, at[i], 1, 0);
        fault("lady at 12;", 8);
        fault("knave at 1;", 0);
        Doc.says("AGE, WIT (0 without);");
        Play.of("child at 4 age 99 wit 9; child at 4; child at 4 age 0 wit 0; child at 4 age 98; child at 4 wit 8;")
            .one(0, 0, 99, 9, 4, 1, 0)
            .one(1, 0, 0, 0, 4, 1, 0).one(2, 0, 0, 0, 4, 1, 0).one(3, 0, 98, 0, 4, 1, 0).one(4, 0, 0, 8, 4, 1, 0);
        fault("child at 4 age 100;", 15);
        fault("child at 4 wit 10;", 15);
        Doc.says("HIDDEN without seeks.");
        Play.of("child at 4 seeks; child at 4; child at 4 age 99; child at 4 age 99 seeks;").is(0b0110, "state", 1);
    }

    private static void coverAndLaws() {
        Doc.says("cover: of a PLACE.");
        Play p = Play.of("cover 0 is 0; cover 11 is 9; cover 5 is 1; cover 5 is 2;").is(0, "place", 0, 0).is(9, "place", 11, 0)
            .is(2, "place", 5, 0);
        p.is(3 * 9 + 11, "state", 5);
        fault("cover 12 is 1;", 6);
        fault("cover 1 is 10;", 11);
        Doc.says("The others: the LAW.");
        Play.of("out 0; dark 0; lamp 0; peep 0;").is(0, "lawOf", 0).is(0, "lawOf", 1).is(0, "lawOf", 2).is(0, "lawOf", 3);
        Play.of("out 99; dark 9; lamp 9; peep 99;").is(99, "lawOf", 0).is(9, "lawOf", 1).is(9, "lawOf", 2).is(99, "lawOf", 3);
        Play.of("out 1; dark 2; lamp 3; peep 4; out 5;").is(5, "lawOf", 0).is(2, "lawOf", 1).is(3, "lawOf", 2).is(4, "lawOf", 3);
        fault("out 100;", 4);
        fault("dark 10;", 5);
        fault("lamp 10;", 5);
        fault("peep 100;", 5);
    }

    private static void allByItAlone() {
        Doc.says("It is all by it alone (what it doesn't tell is as at first);");
        int[] laws = {60, 2, 1, 20};
        Play p = TermsEdges.rich().due(1, "park").one(0, 5, 0, 0, 2, 1, 0).is(1, "many", 0).is(0, "state", 0).is(36, "state", 5)
            .is(0, "state", 3);
        for (int law = 0; law < 4; law++) p.is(law == 2 ? 7 : laws[law], "lawOf", law);
        p.is(1, "state", 1).due(0, "park").is(0, "many", 0).is(0, "state", 1).is(1, "lawOf", 2);
        // of a full park that has found much nothing is left
        Play q = Play.of("lady at 0 seeks; lady at 0; cover 0 is 0; dark 0;" + "lady at 7;".repeat(6)).due(7, "years", 3)
            .is(2, "state", 3);
        q.feed("lady at 1; lady at 1 seeks;").due(2, "park").is(0, "state", 3).is(1, "state", 1).is(3, "place", 1, 1)
            .is(0, "place", 7, 1).is(2, "many", 3);
        q.due(2, "person", 0, 0, 0, 0, 0).one(2, 0, 0, 0, 0, 1, 0);
        Doc.says("z stays.");
        new Play().due(1, "seed", -5).due(0, "park").due(-5, "seed", 7).feed("lady at 1;").due(1, "park").due(7, "seed", 8)
            .feed("x").due(-100, "park").due(8, "seed", 9);
    }

    private static void names() {
        Doc.says("NAMES are rows of letters a to z,");
        // the bytes next to a and z, and capitals, are no letters
        for (int b : new int[] {'a' - 1, 'z' + 1, 'A', 'Z', 'a' + 128, 'z' + 128}) {
            fault((char) b + "out 1;", 0);
            fault("out" + (char) b + " 1;", 3);
            fault("lady at 1 " + (char) b + ";", 10);
        }
        // all letters are: a NAME that no one has is one NAME
        fault("abcdefghijklmnopqrstuvwxyz 1;", 0);
        fault("out 1; abcdefghijklmnopqrstuvwxyz", 7);
        fault("outz 1;", 0);
        fault("aout 1;", 0);
        fault("OUT 1;", 0);
    }

    private static void numbers() {
        Doc.says("NUMBERS rows of digits (1 to 3), both as long as they go;");
        for (int b : new int[] {'0' - 1, '9' + 1, '0' + 128, '9' + 128}) {
            fault("out " + (char) b + ";", 4);
            fault("out 1" + (char) b + ";", 5);
        }
        for (int digit = 0; digit < 10; digit++) Play.of("out " + digit + "; peep 00" + digit + ";").is(digit, "lawOf", 0)
            .is(digit, "lawOf", 3);
        Play.of("out 1; peep 12;").is(1, "lawOf", 0).is(12, "lawOf", 3);
        Play.of("out 012; peep 000; dark 009; lamp 08; lady at 011 age 099 wit 009;").is(12, "lawOf", 0).is(0, "lawOf", 3)
            .is(9, "lawOf", 1).is(8, "lawOf", 2)
            .one(0, 5, 99, 9, 11, 1, 0);
        fault("out 0012;", 4);
        fault("out 0000;", 4);
        fault("out 4294967297;", 4);
        fault("out 00000000000000000000000001;", 4);
        fault("out 1 2;", 6);
        fault("out -1;", 4);
        fault("out +1;", 4);
        fault("out 1.0;", 5);
        // as long as they go: two NAMES without a blank are one, and so are two NUMBERS
        fault("ladyat 1;", 0);
        fault("lady at 1 ageseeks;", 10);
        fault("lady at 1 seekswit 1;", 10);
        fault("lady at 111;", 8);
    }

    private static void blanks() {
        Doc.says("blanks (32) part them, and stand elsewhere as one likes.");
        Play.of("  lady  at   3  age 4   wit  5  seeks  ;   peep   6  ;  ").one(0, 5, 4, 5, 3, 0, 0).is(6, "lawOf", 3);
        Play.of("lady at 3;child at 4;out 5;cover 6 is 7;").is(2, "many", 0).is(5, "lawOf", 0).is(7, "place", 6, 0);
        // a NAME and a NUMBER end where the other begins
        Play.of("lady at3age4wit5seeks;cover6is 7;out8;").one(0, 5, 4, 5, 3, 0, 0).is(7, "place", 6, 0).is(8, "lawOf", 0);
        for (int b : new int[] {0, 9, 10, 13, 31, 33, 127, 160, 255}) {
            fault("out" + (char) b + "1;", 3);
            fault("out 1" + (char) b + ";", 5);
            fault("out 1;" + (char) b, 6);
            fault((char) b + "out 1;", 0);
        }
        for (int b = 0; b < 256; b++) {
            boolean digit = b >= '0' && b <= '9';
            boolean letter = b >= 'a' && b <= 'z';
            stands(b == ' ' || digit, "out" + (char) b + "5;", letter ? 0 : 3);
            stands(b == ' ' || digit, "out 5" + (char) b + ";", b == ';' ? 6 : 5);
            stands(b == ' ', "out 5;" + (char) b, 6);
            stands(b == ' ', (char) b + "out 5;", 0);
        }
    }

    private static void stands(boolean is, String text, int fault) {
        new Play().feed(text).due(is ? 0 : -100 - fault, "park");
    }

    private static void faultPlaces() {
        Doc.says("FAULT: the place (from 0) of the first byte of the first NAME, NUMBER or other byte that can't stand "
            + "there or is not as told");
        fault("x", 0);
        fault("   x", 3);
        fault("7", 0);
        fault("lady at 1; x", 11);
        fault("lady at 1; 7", 11);
        fault("lady at 1; =", 11);
        // the first of several
        fault("out 100; dark 10;", 4);
        fault("out 1; dark 10; lamp 10;", 12);
        fault("knave at 12 age 100;", 0);
        fault("lady at 12 age 100;", 8);
        fault("lady at 1 age 100 wit 10;", 14);
        fault("cover 12 is 10;", 6);
        fault("lady on 12;", 5);
        // its first byte, though it goes wrong at its last
        fault("lady at 1 seekz;", 10);
        fault("lady at 1 seek;", 10);
        fault("grandsons at 1;", 0);
        fault("grandso at 1;", 0);
        // behind a FAULT nothing stands, before it neither
        TermsEdges.rich().due(1, "park").faulty("out 1; lady at 0; cover 0 is 0; peep 1; x", 40);
    }

    private static void faultNumbers() {
        Doc.says("(a NUMBER out of range, of more digits;");
        String[] before = {"lady at ", "lady at 1 age ", "lady at 1 wit ", "cover ", "cover 1 is ", "out ", "dark ", "lamp ", "peep "};
        String[] behind = {";", ";", ";", " is 1;", ";", ";", ";", ";", ";"};
        int[] most = {11, 99, 9, 11, 9, 99, 9, 9, 99};
        for (int i = 0; i < before.length; i++) {
            new Play().feed(before[i] + most[i] + behind[i]).due(i < 3 ? 1 : 0, "park");
            new Play().feed(before[i] + "0" + behind[i]).due(i < 3 ? 1 : 0, "park");
            new Play().feed(before[i] + "000" + behind[i]).due(i < 3 ? 1 : 0, "park");
            fault(before[i] + (most[i] + 1) + behind[i], before[i].length());
            fault(before[i] + "999" + behind[i], before[i].length());
            fault(before[i] + "0000" + behind[i], before[i].length());
            fault(before[i] + "0001" + behind[i], before[i].length());
            fault(before[i] + "4294967296" + behind[i], before[i].length());
            fault(before[i] + "x" + behind[i], before[i].length());
            fault(before[i] + behind[i].trim(), before[i].length());
        }
    }

    private static void faultNinth() {
        Doc.says("the NAME of a ninth one),");
        String eight = "lady at 1;".repeat(8);
        new Play().feed(eight).due(8, "park");
        fault(eight + "lady at 1;", 80);
        fault(eight + "child", 80);
        fault(eight + " lady at 12;", 81);
        fault(eight + "peep 3; scholar at 1;", 88);
        // what comes before it is the first FAULT
        fault(eight + "peep 100; lady at 1;", 85);
        fault(eight + "knave at 1;", 80);
        new Play().feed(eight + "peep 3; cover 1 is 1;").due(8, "park").is(3, "lawOf", 3);
        // others that were there before don't count
        Play.of(eight).feed(eight).due(8, "park");
    }

    private static void faultEnd() {
        Doc.says("or the end (how many bytes there are), if more must come.");
        String text = "child at 10 age 99 wit 9 seeks;";
        int[] faults = {-1, 0, 0, 0, 0, 5, 6, 6, 8, 9, 10, 11, 12, 12, 12, 15, 16, 17, 18, 19, 19, 19, 22, 23, 24, 25, 25, 25, 25, 25, 30, -1};
        for (int n = 0; n <= text.length(); n++) {
            if (faults[n] >= 0) fault(text.substring(0, n), faults[n]);
            else new Play().feed(text.substring(0, n)).due(n / text.length(), "park");
        }
        String cover = "cover 10 is 9;";
        int[] places = {-1, 0, 0, 0, 0, 5, 6, 7, 8, 9, 9, 11, 12, 13, -1};
        for (int n = 0; n <= cover.length(); n++) {
            if (places[n] >= 0) fault(cover.substring(0, n), places[n]);
            else new Play().feed(cover.substring(0, n)).due(0, "park");
        }
        fault("peep", 4);
        fault("peep ", 5);
        fault("peep 3", 6);
        fault("peep 3  ", 8);
        fault("lady at 1; peep 3", 17);
        fault(" ".repeat(190) + "peep 3", 196);
    }
}
