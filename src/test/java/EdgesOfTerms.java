/** The edges that "What it is" and "Terms" name, but for how a day goes. */
final class EdgesOfTerms {
    private static final String TERMS = "Terms";

    private EdgesOfTerms() {
    }

    static void look() {
        callsUpToThe512th();
        halvesAreCut();
        timeFromZero();
        eachDayHasFiveAtFirst();
        fallGoesRound();
        fallGoesRoundInDaysThatPass();
        fallGoesRoundInLooksAhead();
        millRunsFromThreeOn();
        sizesOneToSix();
        roughAtFirst();
        crackJustBelowTheFlaw();
        noCrackByFlawZero();
        nearlyAllCracksByFlawNine();
        wheelsOfOtherBedsDoNotCount();
        brokenWheelsCount();
        tonesAtTheirEnds();
        weightsAtTheirEnds();
        worthAtItsEnds();
        worthWithACrack();
        wheelsThatAreLoaded();
        refusedCallsChangeNothing();
        indexAheadOfArgument();
        argumentAheadOfState();
        argumentAheadOfIndex();
        indexAheadOfState();
    }

    private static void callsUpToThe512th() {
        Doc.says("What it is", "An object is used for at most 512 calls after it has been made");
        GritWheels x = Made.at(1, 9, 0, 9);
        for (int call = 4; call <= 510; call++) {
            x.pass(40);
        }
        Due.is("work, by call 511", 9 * 40 * 507, x.quarrier(0, 3));
        Due.is("the day, by call 512", 40 * 507, x.count(0));
    }

    private static void halvesAreCut() {
        Doc.says(TERMS, "All numbers are whole, and / is cut towards 0.");
        for (int skill = 1; skill <= 9; skill++) {
            GritWheels x = Made.behindWork(10, 1, 0, 200, skill);
            x.pass(1);
            Due.is("size by skill " + skill, new int[] {1, 1, 2, 2, 3, 3, 4, 4, 5, 5}[skill], x.wheel(0, 1));
        }
    }

    private static void timeFromZero() {
        Doc.says(TERMS, "Time is told in days, from 0.");
        GritWheels x = new GritWheels();
        Due.is("at first", 0, x.count(0));
        x.pass(1);
        Due.is("then", 1, x.count(0));
    }

    private static void eachDayHasFiveAtFirst() {
        Doc.says(TERMS, "how much water falls, 0 to 9 (5, at first)");
        GritWheels x = new GritWheels();
        for (int day = 0; day < 9; day++) {
            Due.is("water of day " + day, 5, x.setFall(day, day));
        }
        for (int day = 0; day < 9; day++) {
            Due.is("water of day " + day + " then", day, x.setFall(day, 9));
        }
    }

    private static void fallGoesRound() {
        Doc.says(TERMS, "the day by the remainder of 9");
        GritWheels x = new GritWheels();
        for (int day = 0; day < 9; day++) {
            x.setFall(day, 8 - day);
        }
        for (int day = 0; day < 28; day++) {
            Due.is("water of day " + day, 8 - day % 9, x.count(1));
            x.pass(1);
        }
        for (int day = 28; day < 1000; day += 40) {
            Due.is("water of day " + day, 8 - day % 9, x.count(1));
            x.pass(40);
        }
    }

    private static void fallGoesRoundInDaysThatPass() {
        Doc.says(TERMS, "the day by the remainder of 9");
        GritWheels x = Made.at(1, 0, 200, 9);
        Made.setWholeFall(x, 0);
        x.setFall(0, 9);
        x.pass(9);
        Due.is("dressed up to day 8", 0, x.count(5));
        x.pass(1);
        Due.is("dressed on day 9, by the water of day 0", 4, x.count(5));
        GritWheels y = Made.at(1, 0, 200, 9);
        Made.setWholeFall(y, 0);
        y.setFall(8, 9);
        y.pass(8);
        Due.is("dressed up to day 7", 0, y.count(5));
        y.pass(1);
        Due.is("dressed on day 8, the last of the table", 4, y.count(5));
        y.pass(8);
        Due.is("dressed up to day 16", 4, y.count(5));
        y.pass(1);
        Due.is("dressed on day 17", 8, y.count(5));
    }

    private static void fallGoesRoundInLooksAhead() {
        Doc.says(TERMS, "the day by the remainder of 9");
        GritWheels x = Made.at(1, 0, 200, 9);
        Made.setWholeFall(x, 0);
        x.setFall(0, 9);
        x.pass(8);
        Due.is("dressed behind day 8", 0, x.foresee(1, 5));
        Due.is("dressed behind day 9", 4, x.foresee(2, 5));
        Due.is("dressed behind day 18", 8, x.foresee(11, 5));
    }

    private static void millRunsFromThreeOn() {
        Doc.says(TERMS, "The mill runs on days with 3 or more.");
        for (int water = 0; water <= 9; water++) {
            GritWheels x = Made.at(1, 0, 200, 9);
            x.setFall(0, water);
            Due.is("it runs with water " + water, water >= 3 ? 1 : 0, x.count(2));
            x.setFall(1, water);
            x.pass(2);
            Due.is("dressed with water " + water, water >= 3 ? 1 : 0, x.count(5));
        }
    }

    private static void sizesOneToSix() {
        Doc.says(TERMS, "has a size, 1 to 9");
        GritWheels x = Made.behindWork(10, 1, 0, 200, 1);
        x.pass(1);
        Due.is("the smallest", 1, x.wheel(0, 1));
        GritWheels y = Made.at(1, 0, 200, 9);
        y.pass(4);
        Due.is("the largest that can be cut", 6, y.wheel(2, 1));
    }

    private static void roughAtFirst() {
        Doc.says(TERMS, "is rough (0, at first), dressed (1), loaded (2), shipped (3), or broken (4)");
        GritWheels x = Made.withEachKind();
        Due.areFacts("wheels 0 to 4 are", new int[] {4, 3, 2, 1, 0}, wheel -> x.wheel(wheel, 3));
        GritWheels y = Made.at(1, 0, 200, 9);
        y.setFall(1, 0);
        y.pass(2);
        Due.is("as it is cut, without a mill", 0, y.wheel(0, 3));
    }

    /** Of size 5, wheel 0 has the remainder 5 and wheel 1 the remainder 2. */
    private static void crackJustBelowTheFlaw() {
        Doc.says(TERMS, "if the remainder of 7 * n + 3 * size by 10 is less than the flaw of the bed");
        int[] soundByFlaw = {2, 2, 2, 1, 1, 1, 0, 0, 0, 0};
        for (int flaw = 0; flaw <= 9; flaw++) {
            GritWheels x = Made.at(1, flaw, 200, 9);
            x.pass(3);
            Due.is("sound ones of two by flaw " + flaw, soundByFlaw[flaw], x.bed(0, 5));
            Due.is("wheel 0 rings by flaw " + flaw, flaw > 5 ? 20 : 29, x.ring(0));
            Due.is("wheel 1 rings by flaw " + flaw, flaw > 2 ? 20 : 29, x.ring(1));
        }
    }

    /** Two of size 1 on day 19 have the remainders 3 and 0. */
    private static void noCrackByFlawZero() {
        Doc.says(TERMS, "is less than the flaw of the bed");
        GritWheels x = Made.behindWork(19, 1, 0, 200, 1);
        x.pass(1);
        Due.is("sound ones of two by flaw 0", 2, x.bed(1, 5));
        GritWheels y = Made.behindWork(19, 1, 1, 200, 1);
        y.pass(1);
        Due.is("sound ones of two by flaw 1", 1, y.bed(1, 5));
        Due.is("wheel 0, remainder 3", 45, y.ring(0));
        Due.is("wheel 1, remainder 0", 36, y.ring(1));
    }

    /** Four of size 5 on day 4 have the remainders 5, 2, 9 and 6. */
    private static void nearlyAllCracksByFlawNine() {
        Doc.says(TERMS, "is less than the flaw of the bed");
        GritWheels x = Made.behindWork(4, 1, 9, 200, 9);
        Due.is("wheels", 4, x.pass(1));
        Due.areFacts("rings", new int[] {20, 20, 29, 20}, x::ring);
        Due.is("sound ones", 1, x.bed(1, 5));
    }

    private static void wheelsOfOtherBedsDoNotCount() {
        Doc.says(TERMS, "A wheel that is the n-th of its bed (from 0)");
        GritWheels x = Made.at(1, 3, 200, 9, 9);
        x.open(1, 3, 200);
        x.send(1, 1);
        x.pass(2);
        Due.is("the first of bed 0 is sound", 1, x.bed(0, 5));
        Due.is("the first of bed 1 is sound", 1, x.bed(1, 5));
    }

    private static void brokenWheelsCount() {
        Doc.says(TERMS, "A wheel that is the n-th of its bed (from 0)");
        GritWheels x = Made.at(1, 3, 200, 9);
        x.pass(2);
        x.smash(0);
        x.pass(1);
        Due.is("the second has a crack, though the first is broken", 20, x.ring(1));
    }

    private static void tonesAtTheirEnds() {
        Doc.says(TERMS, "It rings with a tone of 50 - 4 * size - grit, with the grit of its bed, 9 less with a crack.");
        GritWheels x = Made.behindWork(10, 1, 0, 200, 1);
        x.pass(1);
        Due.is("size 1, grit 1, sound", 45, x.ring(0));
        GritWheels y = Made.behindWork(3, 9, 9, 200, 9);
        y.pass(1);
        Due.is("size 6, grit 9, a crack", 8, y.ring(0));
        GritWheels z = Made.behindWork(3, 9, 8, 200, 9);
        z.pass(1);
        Due.is("size 6, grit 9, sound", 17, z.ring(0));
    }

    private static void weightsAtTheirEnds() {
        Doc.says(TERMS, "Its weight is 2 * size * size.");
        GritWheels x = Made.behindWork(10, 1, 0, 200, 1);
        x.pass(1);
        Due.is("size 1", 2, x.wheel(0, 2));
        GritWheels y = Made.behindWork(3, 9, 9, 200, 9);
        y.pass(1);
        Due.is("size 6", 72, y.wheel(0, 2));
    }

    private static void worthAtItsEnds() {
        Doc.says(TERMS, "Its worth is size * (10 - grit) if it is rough, three times this if it is dressed");
        isWorth("size 1, grit 9", Made.behindWork(10, 9, 3, 200, 1), 1, 3);
        isWorth("size 6, grit 1", Made.behindWork(3, 1, 8, 200, 9), 54, 162);
        Doc.says(TERMS, "three times this if it is dressed, loaded or shipped, 0 if it is broken");
        GritWheels x = Made.withEachKind();
        int[] worth = {0, 21, 25, 105, 7};
        Due.areFacts("broken, shipped, loaded, dressed, rough", worth, wheel -> x.wheel(wheel, 4));
    }

    private static void worthWithACrack() {
        Doc.says(TERMS, "with a crack a fifth (cut) of that");
        isWorth("size 1, grit 9", Made.behindWork(10, 9, 4, 200, 1), 0, 0);
        isWorth("size 6, grit 1", Made.behindWork(3, 1, 9, 200, 9), 10, 32);
        isWorth("size 5, grit 9", Made.behindWork(4, 9, 9, 200, 9), 1, 3);
        isWorth("size 5, grit 8", Made.behindWork(4, 8, 9, 200, 9), 2, 6);
    }

    /** What the first wheel of the next day is worth while it is rough, and then dressed. */
    private static void isWorth(String of, GritWheels x, int rough, int dressed) {
        Made.setWholeFall(x, 0);
        x.pass(1);
        Due.is(of + ", rough", rough, x.wheel(0, 4));
        Made.setWholeFall(x, 3);
        x.pass(1);
        Due.is(of + ", dressed", dressed, x.wheel(0, 4));
    }

    private static void wheelsThatAreLoaded() {
        Doc.says(TERMS, "is at the quay (at first) or away, and has wheels that are loaded");
        GritWheels x = Made.withEachKind();
        Due.areFacts("raft 0, whose wheel is shipped", new int[] {400, 400, 0, 1}, what -> x.raft(0, what));
        Due.areFacts("raft 1, with one", new int[] {400, 328, 1, 0}, what -> x.raft(1, what));
        x.build(20);
        Due.areFacts("raft 2 at first", new int[] {20, 20, 0, 0}, what -> x.raft(2, what));
    }

    /** What cannot be told now, as the day from which a raft is back, is told by the days that follow. */
    private static void refusedCallsChangeNothing() {
        Doc.says(TERMS, "A method that throws an exception changes nothing.");
        GritWheels x = Made.withEachKind();
        GritWheels y = Made.withEachKind();
        for (int day = 0; day < 6; day++) {
            refuseOneOfEach(x);
            x.pass(1);
            y.pass(1);
            Due.is("digest() " + day + " days on", y.digest(), x.digest());
        }
        Due.is("the next wheel onto raft 0", y.load(3, 0), x.load(3, 0));
        Due.is("the next bed", 1, x.open(1, 0, 0));
        Due.is("the next quarrier", 1, x.hire(1));
        Due.is("the next raft", 2, x.build(20));
    }

    private static void refuseOneOfEach(GritWheels x) {
        Due.isOutside("setFall", x, () -> x.setFall(9, 0));
        Due.isIllegal("setFall", x, () -> x.setFall(0, 10));
        Due.isIllegal("open", x, () -> x.open(1, 0, 201));
        Due.isIllegal("hire", x, () -> x.hire(10));
        Due.isOutside("send", x, () -> x.send(0, 1));
        Due.isUntimely("ring", x, () -> x.ring(0));
        Due.isUntimely("smash a broken one", x, () -> x.smash(0));
        Due.isUntimely("smash a shipped one", x, () -> x.smash(1));
        Due.isUntimely("smash a loaded one", x, () -> x.smash(2));
        Due.isIllegal("build", x, () -> x.build(401));
        Due.isUntimely("load a shipped one", x, () -> x.load(1, 1));
        Due.isUntimely("load a loaded one", x, () -> x.load(2, 1));
        Due.isUntimely("ship, away or empty", x, () -> x.ship(0));
        Due.isOutside("count", x, () -> x.count(10));
        Due.isIllegal("pass", x, () -> x.pass(41));
        Due.isIllegal("foresee", x, () -> x.foresee(41, 3));
        Due.isOutside("foresee", x, () -> x.foresee(40, 6));
        Due.isIllegal("advise", x, () -> x.advise(0, 21));
        Due.isOutside("advise", x, () -> x.advise(1, 20));
    }

    private static void indexAheadOfArgument() {
        Doc.says(TERMS, "If several exceptions apply, the one that is named first is thrown.");
        GritWheels x = Made.withEachKind();
        Due.isOutside("setFall(-1, -1)", x, () -> x.setFall(-1, -1));
        Due.isOutside("setFall(9, 10)", x, () -> x.setFall(9, 10));
        Due.isOutside("advise(-1, 0)", x, () -> x.advise(-1, 0));
        Due.isOutside("advise(1, 21)", x, () -> x.advise(1, 21));
        GritWheels none = new GritWheels();
        Due.isOutside("advise(0, 0) of nobody", none, () -> none.advise(0, 0));
    }

    private static void argumentAheadOfState() {
        Doc.says(TERMS, "If several exceptions apply, the one that is named first is thrown.");
        GritWheels x = Made.full();
        Due.areIllegal("a sixth bed by its grit", x, grit -> x.open(grit, 0, 0), 0, 10);
        Due.areIllegal("a sixth bed by its flaw", x, flaw -> x.open(1, flaw, 0), -1, 10);
        Due.areIllegal("a sixth bed by its stone", x, stone -> x.open(1, 0, stone), -1, 201);
        Due.areIllegal("a seventh quarrier", x, x::hire, 0, 10);
        Due.areIllegal("a fourth raft", x, x::build, 19, 401);
    }

    private static void argumentAheadOfIndex() {
        Doc.says(TERMS, "If several exceptions apply, the one that is named first is thrown.");
        GritWheels x = Made.withEachKind();
        Due.areIllegal("foresee(.., 6)", x, days -> x.foresee(days, 6), -1, 0, 41);
        Due.areIllegal("foresee(.., -1)", x, days -> x.foresee(days, -1), -1, 0, 41);
    }

    /** Raft 0 is away, raft 1 is not; wheel 0 is broken; there are no more than five wheels and two rafts. */
    private static void indexAheadOfState() {
        Doc.says(TERMS, "If several exceptions apply, the one that is named first is thrown.");
        GritWheels x = Made.withEachKind();
        Due.areOutside("load(.., a raft that is away)", x, wheel -> x.load(wheel, 0), -1, 5);
        Due.areOutside("load(a broken one, ..)", x, raft -> x.load(0, raft), -1, 2);
        Due.areOutside("load(a rough one, ..)", x, raft -> x.load(4, raft), -1, 2);
        x.setFall(6, 0);
        Due.areOutside("ship(..) without water", x, x::ship, -1, 2);
    }
}
