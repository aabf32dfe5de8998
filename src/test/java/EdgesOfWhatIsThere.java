/** The edges of promises 11 to 15: bed, quarrier, wheel, raft, count. */
final class EdgesOfWhatIsThere {
    private static final String REST = "4 behind how many days at this bed there would be 60 dust or more";

    private EdgesOfWhatIsThere() {
    }

    static void look() {
        bedTheFirstAndTheLast();
        bedRefused();
        bedWhatRefused();
        quarriersAtABed();
        soundOnesOfABed();
        quarrierTheFirstAndTheLast();
        quarrierRefused();
        quarrierWhatRefused();
        daysToRestByEachGrit();
        daysToRestNearSixty();
        daysToRestAtNone();
        wheelTheFirstAndTheLast();
        wheelRefused();
        wheelWhatRefused();
        raftOfAWheel();
        raftTheFirstAndTheLast();
        raftRefused();
        raftWhatRefused();
        countOfNothingAndOfAll();
        countOfEachKind();
        countRefused();
    }

    private static void bedTheFirstAndTheLast() {
        Doc.says("Promise 11", "`bed`: a bed");
        Doc.says("Promise 11", "Returns this.");
        GritWheels x = Made.withSixtyWheels();
        Due.areFacts("bed 0", new int[] {1, 0, 200 - 2 * 53, 2, 20, 20}, what -> x.bed(0, what));
        Due.areFacts("bed 4", new int[] {1, 0, 200 - 53, 1, 10, 10}, what -> x.bed(4, what));
    }

    private static void bedRefused() {
        Doc.says("Promise 11", "Throws `IndexOutOfBoundsException` if there is no such bed");
        GritWheels x = new GritWheels();
        Due.areOutside("none yet: bed(.., 0)", x, bed -> x.bed(bed, 0), -1, 0);
        x.open(1, 0, 0);
        Due.areOutside("one: bed(.., 5)", x, bed -> x.bed(bed, 5), -1, 1);
        GritWheels y = Made.full();
        Due.areOutside("five: bed(.., 0)", y, bed -> y.bed(bed, 0), -1, 5);
    }

    private static void bedWhatRefused() {
        Doc.says("Promise 11", "or what is not 0 to 5");
        GritWheels x = Made.withSixtyWheels();
        Due.areOutside("bed(0, ..)", x, what -> x.bed(0, what), -1, 6);
        Due.areOutside("bed(4, ..)", x, what -> x.bed(4, what), -1, 6);
    }

    private static void quarriersAtABed() {
        Doc.says("Promise 11", "3 quarriers at it");
        GritWheels x = Made.full();
        Due.is("none", 0, x.bed(4, 3));
        for (int quarrier = 0; quarrier < 6; quarrier++) {
            x.send(quarrier, 4);
            Due.is("one more", quarrier + 1, x.bed(4, 3));
        }
        Due.is("none at another", 0, x.bed(0, 3));
        x.send(5, -1);
        Due.is("one less", 5, x.bed(4, 3));
    }

    private static void soundOnesOfABed() {
        Doc.says("Promise 11", "4 wheels that were cut of it in all, 5 those of these that are sound");
        GritWheels x = Made.behindWork(3, 9, 9, 200, 9);
        Due.is("sound ones of none", 0, x.bed(1, 5));
        x.pass(1);
        Due.is("three", 3, x.bed(1, 4));
        Due.is("all with a crack", 0, x.bed(1, 5));
        GritWheels y = Made.withWheels();
        y.smash(0);
        y.smash(1);
        Due.is("broken ones were cut", 4, y.bed(0, 4));
        Due.is("and one of the two is sound", 2, y.bed(0, 5));
    }

    private static void quarrierTheFirstAndTheLast() {
        Doc.says("Promise 12", "`quarrier`: a quarrier");
        Doc.says("Promise 12", "Returns this.");
        Doc.says("Promise 12", "0 the skill, 1 the bed, -1 for none, 2 dust, 3 work");
        GritWheels x = Made.full();
        Due.areFacts("quarrier 0 at first", new int[] {9, -1, 0, 0, -1}, what -> x.quarrier(0, what));
        Due.areFacts("quarrier 5 at first", new int[] {9, -1, 0, 0, -1}, what -> x.quarrier(5, what));
        x.send(5, 4);
        x.pass(1);
        Due.areFacts("quarrier 5 at work", new int[] {9, 4, 2, 9, 29}, what -> x.quarrier(5, what));
    }

    private static void quarrierRefused() {
        Doc.says("Promise 12", "Throws `IndexOutOfBoundsException` if there is no such quarrier");
        GritWheels x = new GritWheels();
        Due.areOutside("none yet: quarrier(.., 0)", x, quarrier -> x.quarrier(quarrier, 0), -1, 0);
        x.hire(1);
        Due.areOutside("one: quarrier(.., 4)", x, quarrier -> x.quarrier(quarrier, 4), -1, 1);
        GritWheels y = Made.full();
        Due.areOutside("six: quarrier(.., 0)", y, quarrier -> y.quarrier(quarrier, 0), -1, 6);
    }

    private static void quarrierWhatRefused() {
        Doc.says("Promise 12", "or what is not 0 to 4");
        GritWheels x = Made.full();
        Due.areOutside("quarrier(0, ..)", x, what -> x.quarrier(0, what), -1, 5);
        Due.areOutside("quarrier(5, ..)", x, what -> x.quarrier(5, what), -1, 5);
    }

    private static void daysToRestByEachGrit() {
        Doc.says("Promise 12", REST + ", by the grit and 1 of each day alone");
        int[] days = {30, 20, 15, 12, 10, 9, 8, 7, 6};
        for (int grit = 1; grit <= 9; grit++) {
            GritWheels x = Made.at(grit, 0, 0, 9);
            Due.is("without dust, by grit " + grit, days[grit - 1], x.quarrier(0, 4));
            x.pass(1);
            Due.is("a day on, by grit " + grit, days[grit - 1] - 1, x.quarrier(0, 4));
        }
    }

    private static void daysToRestNearSixty() {
        Doc.says("Promise 12", REST);
        Doc.says("Promise 12", "0 if there is now");
        isDaysToRest(57, 2, 1, 8, 8, 8, 8, 8, 8, 2);
        isDaysToRest(58, 1, 1, 8, 8, 8, 8, 8, 8, 3);
        isDaysToRest(59, 1, 1, 9, 9, 9, 9, 9, 8);
        isDaysToRest(60, 0, 0, 8, 8, 8, 8, 8, 8, 9);
        isDaysToRest(64, 0, 0, 9, 9, 9, 9, 9, 7, 9);
    }

    private static void isDaysToRest(int dust, int byGrit1, int byFirstGrit, int... grits) {
        GritWheels x = Made.dustyBy(grits);
        Due.is("dust", dust, x.quarrier(0, 2));
        x.send(0, x.open(1, 0, 0));
        Due.is("by grit 1 from " + dust, byGrit1, x.quarrier(0, 4));
        x.send(0, 0);
        Due.is("by grit " + grits[0] + " from " + dust, byFirstGrit, x.quarrier(0, 4));
    }

    private static void daysToRestAtNone() {
        Doc.says("Promise 12", "-1 at none");
        GritWheels x = new GritWheels();
        x.hire(9);
        Due.is("without dust", -1, x.quarrier(0, 4));
        GritWheels y = Made.dustyBy(8, 8, 8, 8, 8, 8, 9);
        y.send(0, -1);
        Due.is("with dust 60", -1, y.quarrier(0, 4));
    }

    private static void wheelTheFirstAndTheLast() {
        Doc.says("Promise 13", "`wheel`: a wheel");
        Doc.says("Promise 13", "Returns this.");
        GritWheels x = Made.withSixtyWheels();
        Due.areFacts("wheel 0", new int[] {0, 5, 50, 1, 135, -1}, what -> x.wheel(0, what));
        Due.areFacts("wheel 58", new int[] {4, 5, 50, 0, 45, -1}, what -> x.wheel(58, what));
        Due.areFacts("wheel 59", new int[] {0, 5, 50, 0, 45, -1}, what -> x.wheel(59, what));
    }

    private static void wheelRefused() {
        Doc.says("Promise 13", "Throws `IndexOutOfBoundsException` if there is no such wheel");
        GritWheels x = Made.full();
        Due.areOutside("none yet: wheel(.., 0)", x, wheel -> x.wheel(wheel, 0), -1, 0);
        GritWheels y = Made.withWheels();
        y.foresee(40, 3);
        Due.areOutside("four: wheel(.., 5)", y, wheel -> y.wheel(wheel, 5), -1, 4, 59);
        GritWheels z = Made.withSixtyWheels();
        Due.areOutside("sixty: wheel(.., 0)", z, wheel -> z.wheel(wheel, 0), -1, 60);
    }

    private static void wheelWhatRefused() {
        Doc.says("Promise 13", "or what is not 0 to 5");
        GritWheels x = Made.withSixtyWheels();
        Due.areOutside("wheel(0, ..)", x, what -> x.wheel(0, what), -1, 6);
        Due.areOutside("wheel(59, ..)", x, what -> x.wheel(59, what), -1, 6);
    }

    private static void raftOfAWheel() {
        Doc.says("Promise 13", "3 how it is, 0 to 4 as above, 4 its worth, 5 its raft if it is loaded, else -1");
        GritWheels x = Made.withEachKind();
        Due.areFacts("broken, shipped, loaded, dressed, rough", new int[] {-1, -1, 1, -1, -1}, w -> x.wheel(w, 5));
        x.build(400);
        x.load(3, 2);
        Due.is("loaded onto the last raft", 2, x.wheel(3, 5));
    }

    private static void raftTheFirstAndTheLast() {
        Doc.says("Promise 14", "`raft`: a raft");
        Doc.says("Promise 14", "0 what it carries, 1 how much it still carries, 2 wheels upon it, 3 1 if it is away");
        Doc.says("Promise 14", "Returns this.");
        GritWheels x = Made.withWheels();
        x.build(50);
        x.build(20);
        x.build(400);
        x.load(0, 0);
        x.load(2, 2);
        Due.areFacts("raft 0, full", new int[] {50, 0, 1, 0}, what -> x.raft(0, what));
        Due.areFacts("raft 1, empty", new int[] {20, 20, 0, 0}, what -> x.raft(1, what));
        Due.areFacts("raft 2", new int[] {400, 328, 1, 0}, what -> x.raft(2, what));
        x.ship(0);
        Due.areFacts("raft 0, away", new int[] {50, 50, 0, 1}, what -> x.raft(0, what));
        x.pass(3);
        Due.is("raft 0 on its last day away", 1, x.raft(0, 3));
        x.pass(1);
        Due.areFacts("raft 0 on its first day back", new int[] {50, 50, 0, 0}, what -> x.raft(0, what));
    }

    private static void raftRefused() {
        Doc.says("Promise 14", "Throws `IndexOutOfBoundsException` if there is no such raft");
        GritWheels x = new GritWheels();
        Due.areOutside("none yet: raft(.., 0)", x, raft -> x.raft(raft, 0), -1, 0);
        x.build(20);
        Due.areOutside("one: raft(.., 3)", x, raft -> x.raft(raft, 3), -1, 1);
        GritWheels y = Made.full();
        Due.areOutside("three: raft(.., 0)", y, raft -> y.raft(raft, 0), -1, 3);
    }

    private static void raftWhatRefused() {
        Doc.says("Promise 14", "or what is not 0 to 3");
        GritWheels x = Made.full();
        Due.areOutside("raft(0, ..)", x, what -> x.raft(0, what), -1, 4);
        Due.areOutside("raft(2, ..)", x, what -> x.raft(2, what), -1, 4);
    }

    private static void countOfNothingAndOfAll() {
        Doc.says("Promise 15", "Returns this.");
        GritWheels x = new GritWheels();
        x.setFall(0, 0);
        Due.areFacts("of nothing", new int[] {0, 0, 0, 0, 0, 0, 0, 0, 0, 0}, x::count);
        GritWheels y = Made.withSixtyWheels();
        // two are dressed on each of the days 1 to 11; twelve days by 2 dust of each of six
        Due.areFacts("of all", new int[] {12, 5, 1, 60, 38, 22, 0, 0, 0, 144}, y::count);
    }

    private static void countOfEachKind() {
        Doc.says("Promise 15", "3 wheels in all, 4 rough ones, 5 dressed ones, 6 loaded ones, 7 shipped ones");
        Doc.says("Promise 15", "8 coins that were paid in all, 9 dust of all quarriers, added");
        GritWheels x = Made.withEachKind();
        Due.areFacts("one of each, and a broken one", new int[] {6, 5, 1, 5, 1, 1, 1, 1, 21, 24}, x::count);
        x.load(3, 1);
        Due.areFacts("two that are loaded", new int[] {6, 5, 1, 5, 1, 0, 2, 1, 21, 24}, x::count);
        x.ship(1);
        Due.areFacts("three that are shipped", new int[] {6, 5, 1, 5, 1, 0, 0, 3, 151, 24}, x::count);
    }

    private static void countRefused() {
        Doc.says("Promise 15", "Throws `IndexOutOfBoundsException` if what is not 0 to 9");
        GritWheels x = new GritWheels();
        Due.areOutside("count", x, x::count, -1, 10);
        GritWheels y = Made.withSixtyWheels();
        Due.areOutside("count of all", y, y::count, -1, 10);
    }
}
