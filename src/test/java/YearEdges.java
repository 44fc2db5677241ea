/** Terms 1: A YEAR. */
final class YearEdges {
    private YearEdges() {
    }

    static void run() {
        Doc.section("terms 1");
        growsOlder();
        comesOut();
        whoGoes();
        goesRound();
        hiddenThere();
        isSeen();
        leastOne();
        foundOne();
        finder();
        yearGoes();
    }

    private static void growsOlder() {
        Doc.says("A YEAR: (1) AGE of each is 1 more (99 at most);");
        Play p = Play.of("lady at 0; lady at 1 age 98; lady at 2 age 99; lady at 3 age 98 seeks; lady at 4 age 99 seeks; lady at 5 seeks;");
        p.due(1, "years", 1);
        int[] ages = {1, 99, 99, 99, 99, 1};
        for (int i = 0; i < ages.length; i++) p.is(ages[i], "of", i, 1);
        p.is(398, "state", 2).due(1, "years", 1).is(99, "of", 1, 1).is(2, "of", 0, 1).is(400, "state", 2);
    }

    private static void comesOut() {
        Doc.says("those HIDDEN whose AGE is OUT or more then SEEK.");
        Play p = Play.of("lady at 0 age 58; lady at 1 age 59; lady at 2 age 60; lady at 3 age 99; lady at 4 age 57;");
        p.due(2, "years", 1).is(0b10001, "state", 1).due(1, "years", 1).is(0b10000, "state", 1).due(0, "years", 1);
        Play least = Play.of("lady at 0; lady at 1 age 99; out 0;").is(3, "state", 1).due(0, "years", 1);
        least.is(1, "of", 0, 1);
        Play most = Play.of("lady at 0 age 97; lady at 1 age 98; lady at 2 age 99; out 99;").due(1, "years", 1).is(1, "state", 1);
        most.due(0, "years", 1);
        // neither a LAW nor an AGE brings one out before a YEAR goes
        Play now = Play.of("lady at 0;").due(0, "age", 0, 99).is(1, "of", 0, 4).due(60, "set", 0, 0).is(1, "of", 0, 4)
            .due(0, "years", 1);
        now.is(0, "of", 0, 4);
    }

    private static void whoGoes() {
        Doc.says("(2) Each that SEEKS as (2) begins, by numbers:");
        // 0 comes out in (1) and goes; 1 is found by 0 and stays; 2 stays HIDDEN
        Play p = Play.of("child at 11 age 59 wit 9; child at 0; child at 5;").due(2, "years", 1);
        p.one(0, 0, 60, 9, 0, 1, 1).one(1, 0, 1, 0, 0, 0, 0).one(2, 0, 1, 0, 5, 1, 0);
        // 0 and 1 come to the same PLACE: 0 first, and 1 doesn't see 0
        Play q = Play.of("child at 3 wit 5 seeks; child at 3 wit 2 seeks; child at 4;").due(1, "years", 1);
        q.one(0, 0, 1, 5, 4, 1, 1).one(1, 0, 1, 2, 4, 0, 0).one(2, 0, 1, 0, 4, 0, 0);
        // 1 sees 0, which is HIDDEN as soon as it has found 2
        Play r = Play.of("child at 3 wit 5 seeks; child at 3 wit 9 seeks; child at 4;").due(1, "years", 1);
        r.one(0, 0, 1, 5, 4, 0, 1).one(1, 0, 1, 9, 4, 1, 1).one(2, 0, 1, 0, 4, 0, 0);
        // 0 doesn't see 2; when 1 has found it and is HIDDEN, 0, which would see 1, has been there already
        Play s = Play.of("child at 3 wit 2 seeks; keeper at 5 wit 2 seeks; child at 4 wit 3;").due(1, "years", 1);
        s.is(0, "of", 0, 5).is(1, "of", 1, 5).is(0b010, "state", 1);
        // the last of eight goes too
        Play.of("lady at 1;".repeat(7) + "child at 11 seeks;").due(7, "years", 1).is(0, "of", 7, 3);
    }

    private static void goesRound() {
        Doc.says("it goes as many PLACES round as it STRIDES;");
        int[] from11 = {0, 1, 10, 2, 9, 11};
        int[] from0 = {1, 2, 11, 3, 10, 0};
        for (int kind = 0; kind < 6; kind++) {
            Play p = new Play().due(0, "person", kind, 0, 0, 11, 1).due(1, "person", kind, 0, 0, 0, 1)
                .due(2, "person", kind, 0, 9, 6, 0);
            p.due(1, "years", 1).is(from11[kind], "of", 0, 3).is(from0[kind], "of", 1, 3).is(6, "of", 2, 3);
        }
        Play.of("scholar at 1 seeks; grandson at 9 seeks; grandson at 10 seeks;").due(0, "years", 1)
            .is(11, "of", 0, 3).is(0, "of", 1, 3).is(1, "of", 2, 3);
    }

    private static void hiddenThere() {
        Doc.says("then of those HIDDEN AT that PLACE");
        // a grandson sees all, but not where it was nor on its way, only where it comes to
        Play.of("grandson at 0 wit 9 seeks; child at 0; child at 1; child at 2;").due(3, "years", 1).is(0, "of", 0, 5);
        Play.of("grandson at 0 wit 9 seeks; child at 3;").due(1, "years", 1).is(1, "of", 0, 5);
        // one that SEEKS is not found
        Play.of("grandson at 0 wit 9 seeks; lady at 3 seeks;").due(0, "years", 1).is(0, "of", 0, 5);
        // a lady stays, and finds where she is; over 0 it goes as well
        Play.of("lady at 7 wit 9 seeks; child at 7;").due(1, "years", 1).is(1, "of", 0, 5).is(1, "state", 1);
        Play.of("child at 11 wit 9 seeks; child at 0;").due(1, "years", 1).is(1, "of", 0, 5);
        Play.of("keeper at 0 wit 9 seeks; child at 11;").due(1, "years", 1).is(1, "of", 0, 5);
    }

    /** 0 is HIDDEN AT 4, 1 comes to it in the next YEAR: whether it finds 0. */
    private static void found(boolean is, String text) {
        Play p = Play.of(text).due(1, "years", 1);
        p.is(is ? 0b10 : 0b01, "state", 1).is(is ? 1 : 0, "of", 1, 5).is(0, "of", 0, 5);
    }

    private static void isSeen() {
        Doc.says("whose HIDES is less than what it SEES");
        found(true, "child at 4 wit 2; child at 3 wit 3 seeks;");
        found(false, "child at 4 wit 3; child at 3 wit 3 seeks;");
        found(false, "child at 4 wit 4; child at 3 wit 3 seeks;");
        found(true, "child at 4 wit 9; child at 3 wit 7 seeks; cover 4 is 0;");
        found(false, "child at 4 wit 9; child at 3 wit 6 seeks; cover 4 is 0;");
        // below 0 on both sides: a keeper of 0 less 3, a scholar of 7 less 9
        found(true, "keeper at 4; scholar at 6 seeks; cover 4 is 0; dark 9;");
        found(false, "keeper at 4 wit 1; scholar at 6 seeks; cover 4 is 0; dark 9;");
        // a lady SEES 0 in odd YEARS, which is more than what a keeper below 0 HIDES
        Play odd = Play.of("keeper at 4 wit 2; lady at 5 seeks; cover 4 is 0;").due(1, "years", 1).due(5, "bring", 1, 4);
        odd.due(1, "years", 1).is(0b10, "state", 1);
        Play even = Play.of("keeper at 4 wit 3; lady at 5 seeks; cover 4 is 0;").due(1, "years", 1).due(5, "bring", 1, 4);
        even.due(1, "years", 1).is(0b01, "state", 1).due(1, "years", 1).is(0b10, "state", 1);
        // HIDES by the AGE that it has become: 0 less 3 and a tenth of 40, which is not less than 1
        found(true, "scholar at 4 age 38; scholar at 6 seeks; cover 4 is 0; dark 6;");
        found(false, "scholar at 4 age 39; scholar at 6 seeks; cover 4 is 0; dark 6;");
        // HIDES by where the hidden one is, not by where the seeker was
        found(false, "child at 4; child at 3 wit 3 seeks; cover 4 is 6; cover 3 is 0;");
        found(true, "child at 4; child at 3 wit 3 seeks; cover 4 is 5; cover 3 is 9;");
    }

    private static void leastOne() {
        Doc.says("the least one, if there is one, is found:");
        Play p = Play.of("child at 4 wit 2; child at 4; child at 4; child at 3 wit 9 seeks;").due(3, "years", 1);
        p.is(0b1110, "state", 1).is(1, "of", 3, 5);
        // the least one is not seen: the next is found; only one in a YEAR
        Play q = Play.of("child at 4 wit 9; child at 4 wit 1; child at 4; child at 3 wit 2 seeks;").due(3, "years", 1);
        q.is(0b1101, "state", 1).is(1, "of", 3, 5);
        // the seeker's own number doesn't count
        Play r = Play.of("child at 6; child at 3 wit 9 seeks; child at 4; child at 4;").due(3, "years", 1);
        r.is(0b1011, "state", 1);
        // the last of eight can be the one
        Play.of("child at 3 wit 9 seeks;" + "lady at 4 seeks;".repeat(6) + "child at 4;").due(1, "years", 1).is(1, "state", 1);
        Play none = Play.of("child at 3 wit 9 seeks; child at 5;").due(1, "years", 1).is(2, "state", 1).is(0, "of", 0, 5);
        none.is(4, "of", 0, 3);
        Play alone = Play.of("child at 3 wit 9 seeks;").due(0, "years", 60).one(0, 0, 60, 9, 3, 0, 0);
        alone.is(0, "state", 1);
    }

    private static void foundOne() {
        Doc.says("that one SEEKS (from the next YEAR on),");
        // 1 is found by 0, has a higher number, and yet neither goes nor finds 2 in that YEAR
        Play p = Play.of("child at 3 wit 9 seeks; child at 4 wit 5; child at 5;").due(2, "years", 1);
        p.one(1, 0, 1, 5, 4, 0, 0).is(0b101, "state", 1).due(2, "years", 1).one(1, 0, 2, 5, 5, 1, 1).is(0b011, "state", 1);
        // a lady that is found stays, and would find her finder at once
        Play q = Play.of("child at 3 wit 5 seeks; lady at 4 wit 5; cover 4 is 0; dark 0;").due(1, "years", 1).is(1, "state", 1);
        q.due(1, "years", 1).is(1, "state", 1).due(1, "years", 1).is(2, "state", 1);
    }

    private static void finder() {
        Doc.says("FINDS of the one that found it is 1 more (99 at most),");
        Play p = Play.of("child at 3 wit 9 seeks; child at 4; child at 4;").due(2, "years", 1).is(1, "of", 0, 5).is(0, "of", 1, 5)
            .is(0, "of", 2, 5);
        p.due(0, "seek", 0, 1).due(4, "bring", 0, 3).due(1, "years", 1).is(2, "of", 0, 5).is(2, "state", 3);
        Play most = Play.of("lady at 0 seeks; lady at 0; cover 0 is 0; dark 0; out 99;");
        for (int i = 0; i < 7; i++) most.due(1, "years", 60).due(60, "age", 0, 0).due(60, "age", 1, 0);
        most.is(99, "of", 0, 5).is(99, "of", 1, 5);
        Doc.says("and it is HIDDEN itself.");
        Play q = Play.of("child at 3 wit 9 seeks; child at 4;").due(1, "years", 1).one(0, 0, 1, 9, 4, 1, 1);
        q.is(1, "place", 4, 2).due(1, "years", 1).is(4, "of", 0, 3);
        // one of OUT or more is HIDDEN for that YEAR, and comes out in the next
        Play old = Play.of("child at 3 age 80 wit 9 seeks; child at 4;").due(1, "years", 1).is(1, "state", 1).due(0, "years", 1);
        old.is(5, "of", 0, 3);
    }

    private static void yearGoes() {
        Doc.says("YEAR is 1 more.");
        Play p = new Play();
        for (int i = 1; i <= 3; i++) p.due(0, "years", 1).asked(i, "state", 0);
        p.due(0, "years", 60).asked(63, "state", 0).due(0, "year").asked(64, "state", 0);
        // within a YEAR it is still the one before: a lady finds in the first, not in the second
        Play.of("lady at 4 seeks; child at 4; cover 4 is 2;").due(1, "years", 1).is(1, "state", 1);
        Play q = Play.of("lady at 5 seeks; child at 4; cover 4 is 2;").due(1, "years", 1).due(5, "bring", 0, 4);
        q.due(1, "years", 1).is(2, "state", 1).due(1, "years", 1).is(1, "state", 1);
    }
}
