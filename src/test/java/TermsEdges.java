/** How many calls there may be, and what the terms say of all answers: refusals, sets, quotients, fractions. */
final class TermsEdges {
    private static final int LEAST = Integer.MIN_VALUE;

    private TermsEdges() {
    }

    static void run() {
        Doc.section("uses");
        fiveHundredAndTwelveCalls();
        Doc.section("terms");
        refusalsChangeNothing();
        tapeIsUsedUp();
        firstNamed();
        numbersOfRefusals();
        sets();
        quotients();
        fractions();
    }

    private static void fiveHundredAndTwelveCalls() {
        Doc.says("for at most 512 calls after it has been made; what later calls answer is free.");
        Play p = new Play();
        p.due(1, "seed", 0);
        for (int i = 1; i < 512; i++) p.due(i - 1, "seed", i);
        Check.due(Doc.at() + "calls", p.callsMade(), 512);
        // the dearest questions, of a full park, up to the last call
        Play q = new Play();
        for (int i = 0; i < 8; i++) q.due(i, "person", 5, 0, 9, i, 0);
        for (int i = 0; i < 252; i++) q.is(-3, "fewest", i % 8, 20).is(0, "safeFor", i % 8);
        Check.due(Doc.at() + "calls", q.callsMade(), 512);
        Play r = new Play();
        for (int i = 1; i <= 256; i++) r.due(1, "feed", ' ', 1).due(0, "park");
    }

    /** Something of everything: PEOPLE, YEARS gone, ROWS, SHEETS of three sorts, SHELVES, a TRACE, a TAPE, a park kept. */
    static Play rich() {
        Play p = Play.of("child at 3 age 9 wit 4; widower at 11 wit 2 seeks; lady at 5 age 50; cover 3 is 5; dark 4; lamp 2; peep 30; out 70;");
        p.call("seed", 77);
        p.call("years", 3);
        p.call("keep");
        p.call("years", 2);
        p.call("prove", 0, 4);
        p.call("alterRow", 1, 0, 9);
        p.call("sheet", 0, 0, 5);
        p.call("put", 0, 4, -7);
        p.call("sheet", 1, 1, 3);
        p.call("put", 1, 2, 300);
        p.call("sheet", 2, 3, 0);
        p.call("shelf", 0, 0, 1);
        p.call("shelf", 1, 1, 0);
        p.call("shelf", 2, 0, 2);
        p.call("act", 0, 1, 5);
        return p.feed("lamp 7; lady at 2;");
    }

    private static void refusalsChangeNothing() {
        Doc.says("Answers below 0, where not told otherwise, are refusals; such a call changes nothing");
        Play p = rich();
        p.asked(-1, "feed", 32, 0).asked(-1, "feed", 32, 9).asked(-1, "set", 4, 1).asked(-1, "set", 0, 100).asked(-1, "lawOf", 4);
        p.asked(-1, "person", 6, 1, 1, 1, 1).asked(-1, "person", 1, 1, 1, 1, 2).asked(-1, "of", 3, 0).asked(-1, "does", 0, 3);
        p.asked(-1, "mind", 0, 6, 1).asked(-1, "mind", 0, 1, 10).asked(-1, "age", 0, 100).asked(-1, "bring", 0, 12);
        p.asked(-1, "seek", 0, 2).asked(-1, "place", 12, 0).asked(-1, "cover", 3, 10).asked(-1, "cover", 12, 1);
        p.asked(-1, "years", 0).asked(-1, "years", 61).asked(-1, "nights", 0).asked(-1, "nights", 31).asked(-1, "state", 6);
        p.asked(-1, "where", 0, 61).asked(-1, "shown", 3).asked(-1, "finder", 3).asked(-1, "safeFor", 3).asked(-1, "kindFor", 3);
        p.asked(-1, "witFor", 0, 21).asked(-1, "needed", 3).asked(-1, "fewest", 0, 21).asked(-1, "round", 12);
        p.asked(-1, "fits", 4, 0, 0).asked(-11, "fits", 3, 0, 0).asked(-1, "odds", 9, 0, 0).asked(-1, "hope", 100, 0);
        p.asked(-1, "prove", 0, 11).asked(-1, "prove", 3, 2).asked(-9, "row", 4, 0).asked(-9, "alterRow", 4, 0, 1);
        p.asked(-9, "alterRow", 0, 3, 1).asked(-1, "judge", 3).asked(-1, "minds", 0, 0, 0, 4).asked(-11, "minds", 3, 0, 0, 1);
        p.asked(-13, "minds", 1, 0, 0, 1).asked(-12, "minds", 0, 3, 0, 3).asked(-1, "sheet", 0, 4, 1)
            .asked(-1, "sheet", 0, 0, 41);
        p.asked(-14, "sheet", 0, 0, -1).asked(-1, "put", 4, 0, 1).asked(-11, "put", 3, 0, 1).asked(-12, "put", 0, 5, 1);
        p.asked(-1, "item", 0, 4, 0).asked(-11, "item", 3, 0, 0).asked(-13, "item", 0, 1, 0).asked(-12, "item", 0, 0, 5);
        p.asked(-1, "shelf", 0, 3, 0).asked(-1, "shelf", 0, 0, 3).asked(-1, "shelf", 0, 1, 4).asked(-1, "taken", 0, 6);
        p.asked(-11, "taken", 3, 0).asked(-13, "taken", 0, 2).asked(-3, "trace", 3).asked(-1, "many", 7);
        new Play().feed("out 3;").asked(-3, "again");
        Play full = new Play().feed("child at 3;".repeat(8)).due(8, "park");
        full.feed(" ".repeat(199)).asked(-2, "feed", ' ' | ' ' << 8, 2).asked(-2, "person", 0, 0, 0, 0, 0);
    }

    private static void tapeIsUsedUp() {
        Doc.says("(but that THE TAPE is used up by park());");
        Play p = rich();
        p.due(1, "park");
        p.is(0, "many", 5).faulty("lamp 3; knave", 8);
        rich().feed(" knave").due(-119, "park").is(0, "many", 5).due(0, "park");
    }

    private static void firstNamed() {
        Doc.says("of several the first named:");
        Play p = Play.of("child at 3;".repeat(8) + "out 99;");
        p.asked(-1, "person", 6, 0, 0, 0, 0).asked(-1, "person", 0, 0, 0, 0, 2).asked(-2, "person", 0, 0, 0, 0, 1);
        p.call("sheet", 0, 0, 2);
        p.call("sheet", 1, 1, 2);
        // a SHEET that is missing, of another sort, with an i outside, asked for too many, for nobody
        p.asked(-1, "minds", 2, 9, 8, 1).asked(-1, "minds", 2, 9, 7, 2).asked(-1, "minds", 1, 9, 7, 2)
            .asked(-1, "minds", 0, 9, 0, 9);
        p.asked(-1, "minds", 4, 9, 0, 1).asked(-11, "minds", 2, 9, 0, 1).asked(-13, "minds", 1, 9, 0, 1)
            .asked(-12, "minds", 0, 9, 0, 1);
        p.asked(-1, "fits", 2, 8, 0).asked(-1, "fits", 2, 0, 2).asked(-11, "fits", 2, 0, 1);
        p.asked(-1, "sheet", 4, 0, -1).asked(-1, "sheet", 0, 4, -1).asked(-14, "sheet", 0, 3, -1);
        p.asked(-1, "put", 4, 9, 0).asked(-11, "put", 2, 9, 0).asked(-12, "put", 0, 9, 0);
        p.asked(-1, "item", 2, 4, 9).asked(-11, "item", 2, 0, 9).asked(-13, "item", 1, 0, 9).asked(-12, "item", 1, 1, 9);
        p.asked(-1, "taken", 0, 6).asked(-11, "taken", 0, 5);
        p.asked(-1, "finder", 8).asked(-1, "witFor", 0, 0).asked(-1, "fewest", 8, 1).asked(-3, "fewest", 0, 20);
        p.feed(" ".repeat(200)).asked(-1, "feed", 0, 9).asked(-1, "feed", 0, 0).asked(-2, "feed", 0, 8);
    }

    private static void numbersOfRefusals() {
        Doc.says("BAD (-1) there is no such thing, or a number is not as told;");
        Check.due(Doc.at() + "BAD", LateSeekers.BAD, -1);
        new Play().asked(-1, "of", 0, 0).asked(-1, "lawOf", -1).asked(-1, "years", -1);
        Doc.says("FULL (-2);");
        Check.due(Doc.at() + "FULL", LateSeekers.FULL, -2);
        Play.of("lady at 0;".repeat(8)).asked(-2, "person", 0, 0, 0, 0, 0);
        Doc.says("NONE (-3);");
        Check.due(Doc.at() + "NONE", LateSeekers.NONE, -3);
        new Play().asked(-3, "again").asked(-3, "trace", 0);
        Doc.says("and what the host refuses: -11 nothing where something is asked,");
        Play p = new Play().asked(-11, "put", 0, 0, 0).asked(-11, "item", 0, 0, 0).asked(-11, "taken", 0, 0);
        Doc.says("-12 a place outside,");
        p.due(1, "sheet", 0, 0, 1).asked(-12, "put", 0, 1, 0).asked(-12, "item", 0, 0, 1).asked(-12, "item", 0, 0, -1);
        Doc.says("-13 a thing of another sort or kind,");
        p.asked(-13, "item", 0, 1, 0).due(0, "person", 0, 0, 0, 0, 0).due(1, "shelf", 0, 0, 0).asked(-13, "taken", 0, 1);
        p.due(1, "shelf", 0, 1, 0).asked(-13, "taken", 0, 11).asked(-13, "taken", 0, 0);
        Doc.says("-14 a size below 0,");
        p.asked(-14, "sheet", 0, 0, -1).asked(-14, "sheet", 1, 3, LEAST);
        Doc.says("-15 parted by 0.");
        p.due(1, "shelf", 0, 0, 0).due(-15, "act", 0, 2, 7);
    }

    private static void sets() {
        Doc.says("Sets are told by bits.");
        Play p = Play.of("lady at 0; lady at 11 seeks; lady at 0; lady at 1; lady at 0 seeks; lady at 0; lady at 0; lady at 11;");
        p.asked(0b01110101, "place", 0, 1).asked(0b10000010, "place", 11, 1).asked(0b00001000, "place", 1, 1)
            .asked(0, "place", 2, 1);
        p.asked(0b11101101, "state", 1).asked(1 << 11 | 1 << 1 | 1, "state", 4);
        Play.of("lady at 2;".repeat(8)).asked(255, "state", 1).asked(255, "place", 2, 1).asked(4, "state", 4);
        new Play().asked(0, "state", 1).asked(0, "state", 4);
        // the last of eight alone finds the first
        Play.of("child at 4;" + "lady at 0;".repeat(6) + "child at 3 wit 9 seeks;").asked(128, "fewest", 0, 1);
    }

    private static void quotients() {
        Doc.says("Quotients are cut towards 0.");
        // one of number 1: parts of x by WIT - 1
        Play p = Play.of("child at 0; child at 0 wit 3;");
        p.call("shelf", 0, 0, 1);
        p.due(3, "act", 0, 2, 7).due(-3, "act", 0, 2, -7).due(0, "act", 0, 2, 1).due(0, "act", 0, 2, -1);
        p.call("mind", 1, 0, 0);
        p.due(-7, "act", 0, 2, 7).due(7, "act", 0, 2, -7).due(LEAST, "act", 0, 2, LEAST);
        Play q = Play.of("lady at 0; lady at 0; lady at 0; child at 0 wit 1;");
        q.call("shelf", 0, 0, 3);
        q.due(-3, "act", 0, 2, 7).due(3, "act", 0, 2, -7);
        // half of 5 and of 1, a tenth of 9 and of 19
        Play.of("widower at 0 wit 2; widower at 1 wit 1; scholar at 0 age 9; scholar at 0 age 19; cover 1 is 0;")
            .is(1002, "does", 0, 0).is(1000, "does", 1, 0).is(1000, "does", 2, 0).is(1001, "does", 3, 0);
    }

    private static void fractions() {
        Doc.says("A part of a fraction: 0 above the line, 1 below it, without a common divisor, below above 0 (0 is 0 by 1).");
        Play p = Play.of("peep 20;");
        p.asked(1, "hope", 5, 0).asked(1, "hope", 5, 1).asked(4, "hope", 4, 0).asked(5, "hope", 4, 1).asked(2, "hope", 10, 0);
        p.asked(1, "hope", 10, 1).asked(0, "hope", 0, 0).asked(1, "hope", 0, 1);
        p.asked(8, "odds", 2, 1, 0).asked(25, "odds", 2, 1, 1).asked(1, "odds", 0, 0, 0).asked(1, "odds", 0, 0, 1);
        Play q = Play.of("peep 0;");
        q.asked(0, "hope", 99, 0).asked(1, "hope", 99, 1).asked(0, "odds", 8, 8, 0).asked(1, "odds", 8, 8, 1);
        q.asked(1, "odds", 8, 0, 0).asked(1, "odds", 8, 0, 1);
    }
}
