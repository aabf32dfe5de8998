/** The edges that "Terms" names of how a day goes, steps 1 to 5, and promise 16, pass. */
final class EdgesOfADay {
    private static final String TERMS = "Terms";

    private EdgesOfADay() {
    }

    static void look() {
        theFirstTakesTheLastStone();
        theFirstCutsTheFirstWheel();
        worksWithDust59();
        restsWithDust60();
        dustAtItsMost();
        cutsNothingWithDust60();
        eachWholeTen();
        stoneOneAndNone();
        stoneAtLeastZero();
        the60thWheel();
        the60thWheelOfASecond();
        aBrokenWheelLeavesNoPlace();
        sizesByTheDay();
        dustAtLeastZero();
        dustAtNone();
        dustAtBeds();
        halfOfTheWater();
        fewerRoughOnesThanTheMillTakes();
        byTheirNumbers();
        lastDayAwayAndFirstBack();
        rightBackBehindSoManyDays();
        goesAgainOnTheFirstDayBack();
        eachRaftHasItsOwnDays();
        theDayIsOneGreater();
        passTakesOneToForty();
        passRefused();
        passAnswersNoneAndAll();
    }

    private static void theFirstTakesTheLastStone() {
        Doc.says(TERMS, "Quarriers at beds, by numbers");
        GritWheels x = Made.at(1, 0, 5, 9, 9);
        Due.is("wheels", 1, x.pass(2));
        Due.is("work of the first", 8, x.quarrier(0, 3));
        Due.is("work of the second", 18, x.quarrier(1, 3));
    }

    private static void theFirstCutsTheFirstWheel() {
        Doc.says(TERMS, "Quarriers at beds, by numbers");
        GritWheels x = Made.at(1, 0, 200, 9, 9);
        x.open(1, 0, 200);
        x.send(0, 1);
        x.pass(2);
        Due.is("the bed of wheel 0", 1, x.wheel(0, 0));
        Due.is("the bed of wheel 1", 0, x.wheel(1, 0));
    }

    private static void worksWithDust59() {
        Doc.says(TERMS, "one with less than 60 dust has as much more work as the skill");
        GritWheels x = Made.dustyBy(9, 9, 9, 9, 9, 8);
        Due.is("dust", 59, x.quarrier(0, 2));
        Due.is("work", 54, x.quarrier(0, 3));
        x.pass(1);
        Due.is("work then", 63, x.quarrier(0, 3));
        Due.is("dust then, 59 and 9 and less 4", 64, x.quarrier(0, 2));
    }

    private static void restsWithDust60() {
        Doc.says(TERMS, "With 60 dust or more this one does nothing.");
        GritWheels x = Made.dustyBy(8, 8, 8, 8, 8, 8, 9);
        Due.is("dust", 60, x.quarrier(0, 2));
        Due.is("work", 63, x.quarrier(0, 3));
        x.pass(1);
        Due.is("work then", 63, x.quarrier(0, 3));
        Due.is("dust then", 56, x.quarrier(0, 2));
        x.pass(1);
        Due.is("work a day on", 72, x.quarrier(0, 3));
    }

    /** 59 and 10 is the most that a day can come to, so 100 itself is out of reach. */
    private static void dustAtItsMost() {
        Doc.says(TERMS, "as much more dust as the grit of the bed and 1, added, at most 100");
        Doc.says(TERMS, "and has dust, 0 (at first) to 100, and work, 0 (at first) or more");
        GritWheels x = Made.dustyBy(9, 9, 9, 9, 9, 8, 9);
        Due.is("59 and 10 and less 4", 65, x.quarrier(0, 2));
        GritWheels y = new GritWheels();
        y.hire(9);
        Due.is("dust at first", 0, y.quarrier(0, 2));
        Due.is("work at first", 0, y.quarrier(0, 3));
    }

    private static void cutsNothingWithDust60() {
        Doc.says(TERMS, "With 60 dust or more this one does nothing.");
        GritWheels x = Made.dustyBy(8, 8, 8, 8, 8, 8, 9);
        x.send(0, x.open(1, 0, 200));
        Due.is("wheels with dust 60 and work 63", 0, x.pass(1));
        Due.is("work is kept", 63, x.quarrier(0, 3));
        Due.is("wheels with dust 56 and work 72", 7, x.pass(1));
        Due.is("work is left", 2, x.quarrier(0, 3));
    }

    private static void eachWholeTen() {
        Doc.says(TERMS, "For each whole 10 of work");
        int[][] wheelsAndWork = {{8, 0, 9}, {9, 1, 0}, {10, 1, 1}, {18, 1, 9}, {19, 2, 0}, {20, 2, 1}, {29, 3, 0}};
        for (int[] due : wheelsAndWork) {
            GritWheels x = Made.behindWork(due[0], 1, 0, 200, 1);
            Due.is("wheels by one more work than " + due[0], due[1], x.pass(1));
            Due.is("work that is left then", due[2], x.quarrier(0, 3));
        }
    }

    private static void stoneOneAndNone() {
        Doc.says(TERMS, "as long as there is stone");
        GritWheels x = Made.behindWork(19, 1, 0, 1, 1);
        Due.is("wheels of 1 stone by 20 work", 1, x.pass(1));
        Due.is("work is kept", 10, x.quarrier(0, 3));
        Due.is("wheels of no stone", 0, x.pass(1));
        Due.is("work is kept then", 11, x.quarrier(0, 3));
        GritWheels y = Made.behindWork(19, 1, 0, 0, 1);
        Due.is("wheels of 0 stone by 20 work", 0, y.pass(1));
        Due.is("work is kept of that", 20, y.quarrier(0, 3));
    }

    private static void stoneAtLeastZero() {
        Doc.says(TERMS, "the bed has as much less stone as the size (at least 0)");
        int[][] stoneThen = {{1, 0}, {4, 0}, {5, 0}, {6, 1}, {200, 195}};
        for (int[] due : stoneThen) {
            GritWheels x = Made.at(1, 0, due[0], 9);
            Due.is("wheels of " + due[0] + " stone", 1, x.pass(2));
            Due.is("its size", 5, x.wheel(0, 1));
            Due.is("stone then", due[1], x.bed(0, 2));
        }
    }

    private static void the60thWheel() {
        Doc.says(TERMS, "there are fewer than 60 wheels");
        Doc.says(TERMS, "There are at most 60 in all, numbered likewise");
        GritWheels x = Made.withFiftyNineWheels();
        Due.is("wheels", 59, x.count(3));
        Due.isOutside("wheel(59, 0)", x, () -> x.wheel(59, 0));
        Due.is("wheels then, looked ahead", 60, x.foresee(1, 3));
        Due.is("wheels in the end, looked ahead", 60, x.foresee(40, 3));
        Due.is("the 60th is cut, and no other", 1, x.pass(1));
        Due.is("it is of bed 3", 3, x.wheel(59, 0));
        Due.is("stone of the bed", 195, x.bed(3, 2));
        Due.is("work of the one who cut it", 158 + 9 - 10, x.quarrier(0, 3));
        Due.is("work of the one who did not", 368 + 9, x.quarrier(1, 3));
        Due.is("none on the next day", 0, x.pass(1));
        Due.is("wheels in all", 60, x.count(3));
        Due.is("stone is left", 195, x.bed(3, 2));
        Due.is("work goes on", 157 + 9, x.quarrier(0, 3));
    }

    private static void the60thWheelOfASecond() {
        Doc.says(TERMS, "there are fewer than 60 wheels");
        GritWheels x = Made.withFiftyNineWheels();
        x.send(0, -1);
        Due.is("the 60th is cut", 1, x.pass(1));
        Due.is("work of the one at none", 158, x.quarrier(0, 3));
        Due.is("work of the one who cut it", 368 + 9 - 10, x.quarrier(1, 3));
    }

    private static void aBrokenWheelLeavesNoPlace() {
        Doc.says(TERMS, "There are at most 60 in all");
        GritWheels x = Made.withSixtyWheels();
        x.smash(0);
        x.smash(59);
        Due.is("none is cut for them", 0, x.pass(3));
        Due.is("wheels in all", 60, x.count(3));
        Due.isOutside("wheel(60, 0)", x, () -> x.wheel(60, 0));
    }

    private static void sizesByTheDay() {
        Doc.says(TERMS, "its size is 1 and half (cut) of the skill, added, one more on days that can be divided by 3");
        GritWheels x = Made.at(1, 0, 200, 9);
        x.pass(10);
        Due.areFacts("sizes of days 1 to 9", new int[] {5, 5, 6, 5, 5, 6, 5, 5, 6}, wheel -> x.wheel(wheel, 1));
        for (int day = 10; day <= 13; day++) {
            GritWheels y = Made.behindWork(day, 1, 0, 200, 1);
            y.pass(1);
            Due.is("size by skill 1 on day " + day, day == 12 ? 2 : 1, y.wheel(0, 1));
        }
    }

    private static void dustAtLeastZero() {
        Doc.says(TERMS, "Quarriers at none have 7 less dust (at least 0)");
        for (int grit = 4; grit <= 8; grit++) {
            GritWheels x = Made.dustyBy(grit);
            x.send(0, -1);
            x.pass(1);
            Due.is("dust " + (grit + 1) + " less 7", grit == 8 ? 2 : grit == 7 ? 1 : 0, x.quarrier(0, 2));
            x.pass(1);
            Due.is("and less 7", 0, x.quarrier(0, 2));
        }
    }

    private static void dustAtNone() {
        Doc.says(TERMS, "Quarriers at none have 7 less dust (at least 0)");
        GritWheels x = Made.dustyBy(8, 8, 8, 8, 8, 8, 9);
        x.send(0, -1);
        x.pass(1);
        Due.is("60 at none: 7 less, and not 4 besides", 53, x.quarrier(0, 2));
        Due.is("work stands still", 63, x.quarrier(0, 3));
        GritWheels y = Made.dustyBy(9, 9, 9, 9, 9, 8);
        y.send(0, -1);
        y.pass(1);
        Due.is("59 at none", 52, y.quarrier(0, 2));
    }

    private static void dustAtBeds() {
        Doc.says(TERMS, "those at beds with 60 dust or more (behind step 1) 4 less");
        Due.is("59 behind step 1", 59, Made.dustyBy(9, 9, 9, 9, 9, 8).quarrier(0, 2));
        Due.is("60 behind step 1, by the work of this day", 56, Made.dustyBy(9, 9, 9, 9, 9, 9).quarrier(0, 2));
        Due.is("61 behind step 1, by the work of this day", 57, Made.dustyBy(8, 8, 8, 8, 8, 7, 7).quarrier(0, 2));
    }

    /** Five rough ones at first, and five more on day 2. */
    private static void halfOfTheWater() {
        Doc.says(TERMS, "The mill, if it runs, dresses as many rough wheels as half (cut) of the water");
        int[] dressed = {0, 0, 0, 1, 2, 2, 3, 3, 4, 4};
        for (int water = 0; water <= 9; water++) {
            GritWheels x = Made.at(1, 0, 200, 9, 9, 9, 9, 9);
            x.setFall(1, 0);
            x.pass(2);
            x.setFall(2, water);
            x.pass(1);
            Due.is("dressed by water " + water, dressed[water], x.count(5));
            Due.is("rough still by water " + water, 10 - dressed[water], x.count(4));
        }
    }

    private static void fewerRoughOnesThanTheMillTakes() {
        Doc.says(TERMS, "dresses as many rough wheels as half (cut) of the water");
        GritWheels x = Made.at(1, 0, 200, 9);
        x.setFall(1, 9);
        Due.is("none are dressed where there are none", 0, x.foresee(1, 5));
        x.pass(2);
        Due.is("dressed", 1, x.count(5));
        Due.is("rough", 0, x.count(4));
    }

    private static void byTheirNumbers() {
        Doc.says(TERMS, "as half (cut) of the water, by their numbers");
        GritWheels x = Made.at(1, 0, 200, 9, 9, 9, 9, 9);
        x.setFall(1, 3);
        x.setFall(2, 9);
        x.pass(2);
        Due.areFacts("by water 3", new int[] {1, 0, 0, 0, 0}, wheel -> x.wheel(wheel, 3));
        x.smash(2);
        x.pass(1);
        int[] then = {1, 1, 4, 1, 1, 1, 0, 0, 0, 0};
        Due.areFacts("by water 9, past the broken one", then, wheel -> x.wheel(wheel, 3));
    }

    /** A raft with a wheel goes on day 5. */
    private static GritWheels shippedOnDay5() {
        GritWheels x = Made.withWheels();
        x.build(400);
        x.load(0, 0);
        x.ship(0);
        return x;
    }

    private static void lastDayAwayAndFirstBack() {
        Doc.says(TERMS, "Rafts that went 3 days ago come back: they are at the quay then");
        GritWheels x = shippedOnDay5();
        for (int day = 5; day <= 8; day++) {
            Due.is("away on day " + day, 1, x.raft(0, 3));
            Due.isUntimely("load on day " + day, x, () -> x.load(1, 0));
            Due.isUntimely("ship on day " + day, x, () -> x.ship(0));
            x.pass(1);
        }
        Due.is("away on day 9", 0, x.raft(0, 3));
        Due.is("load on day 9", 350, x.load(1, 0));
        Due.is("ship on day 9", 21, x.ship(0));
    }

    private static void rightBackBehindSoManyDays() {
        Doc.says(TERMS, "is away up to the day 3, with it, and at the quay as the day is 4");
        for (int days : new int[] {1, 2, 3, 4, 5, 40}) {
            GritWheels x = shippedOnDay5();
            x.pass(days);
            Due.is("away behind " + days + " days at once", days <= 3 ? 1 : 0, x.raft(0, 3));
        }
        GritWheels y = shippedOnDay5();
        y.foresee(40, 3);
        y.advise(0, 20);
        Due.is("away behind looks ahead", 1, y.raft(0, 3));
    }

    private static void goesAgainOnTheFirstDayBack() {
        Doc.says(TERMS, "Rafts that went 3 days ago come back");
        GritWheels x = shippedOnDay5();
        x.pass(4);
        x.load(1, 0);
        x.ship(0);
        x.pass(3);
        Due.is("away on day 12", 1, x.raft(0, 3));
        x.pass(1);
        Due.is("away on day 13", 0, x.raft(0, 3));
    }

    private static void eachRaftHasItsOwnDays() {
        Doc.says(TERMS, "Rafts that went 3 days ago come back");
        GritWheels x = Made.withWheels();
        for (int raft = 0; raft < 3; raft++) {
            x.build(400);
            x.load(raft, raft);
            x.ship(raft);
            x.pass(1);
        }
        int[][] awayByDay = {{1, 1, 1}, {0, 1, 1}, {0, 0, 1}, {0, 0, 0}};
        for (int[] away : awayByDay) {
            Due.areFacts("away on day " + x.count(0), away, raft -> x.raft(raft, 3));
            x.pass(1);
        }
    }

    private static void theDayIsOneGreater() {
        Doc.says(TERMS, "The day is 1 greater.");
        GritWheels x = new GritWheels();
        x.pass(1);
        Due.is("behind 1", 1, x.count(0));
        x.pass(40);
        Due.is("behind 40 more", 41, x.count(0));
    }

    private static void passTakesOneToForty() {
        Doc.says("Promise 16", "Lets days go by.");
        Doc.says("Promise 16", "`days`: how many");
        GritWheels x = Made.at(1, 0, 200, 9);
        Due.is("pass(1)", 0, x.pass(1));
        Due.is("the day", 1, x.count(0));
        Due.is("work", 9, x.quarrier(0, 3));
        Due.is("pass(40): 41 by 9 work", 36, x.pass(40));
        Due.is("the day then", 41, x.count(0));
    }

    private static void passRefused() {
        Doc.says("Promise 16", "Throws `IllegalArgumentException` if days is not 1 to 40");
        GritWheels x = Made.at(1, 0, 200, 9);
        Due.areIllegal("pass", x, x::pass, -1, 0, 41);
        Due.is("pass(1) then", 0, x.pass(1));
        Due.areIllegal("pass on day 1", x, x::pass, -1, 0, 41);
    }

    private static void passAnswersNoneAndAll() {
        Doc.says("Promise 16", "Returns how many wheels are cut in them.");
        GritWheels x = new GritWheels();
        Due.is("without beds and quarriers", 0, x.pass(40));
        GritWheels y = Made.full();
        Due.is("with all at none", 0, y.pass(40));
        for (int i = 0; i < 6; i++) {
            y.send(i, i % 5);
        }
        Due.is("all sixty at once", 60, y.pass(40));
        Due.is("none any more", 0, y.pass(40));
        GritWheels z = Made.at(1, 0, 200, 9);
        z.pass(2);
        Due.is("not those of days before", 1, z.pass(1));
        z.smash(0);
        Due.is("broken ones are not taken off", 1, z.pass(1));
    }
}
