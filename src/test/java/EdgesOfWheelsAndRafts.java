/** The edges of promises 6 to 10: ring, smash, build, load, ship. */
final class EdgesOfWheelsAndRafts {
    private EdgesOfWheelsAndRafts() {
    }

    static void look() {
        ringTheFirstAndTheLast();
        ringNoSuchWheel();
        ringByHowItIs();
        ringAnswersItsTone();
        smashGivesHalfOfTheSize();
        smashNearTheMostStone();
        smashOntoNoStone();
        smashTheFirstAndTheLast();
        smashNoSuchWheel();
        smashByHowItIs();
        raftsAtTheirEnds();
        raftsRefused();
        raftNumbersAndTheFourth();
        loadADressedWheel();
        loadTheFirstAndTheLast();
        loadNoSuchWheelOrRaft();
        loadByHowItIs();
        loadAway();
        loadJustFull();
        loadTooHeavyByTheLeast();
        loadTheLeastRaftWithTheLeastWheels();
        loadTheLargestRaft();
        shipTheFirstAndTheLast();
        shipNoSuchRaft();
        shipAwayOrEmpty();
        shipByTheWater();
        shipAllOrNothingsWorth();
    }

    private static void ringTheFirstAndTheLast() {
        Doc.says("Promise 6", "Rings a wheel.");
        Doc.says("Promise 6", "`wheel`: the wheel");
        GritWheels x = Made.withSixtyWheels();
        long before = x.digest();
        Due.is("ring(0), size 5", 29, x.ring(0));
        Due.is("ring(59), size 5", 29, x.ring(59));
        Due.is("ring(12), size 6", 25, x.ring(12));
        Due.is("ringing changes nothing", before, x.digest());
    }

    private static void ringNoSuchWheel() {
        Doc.says("Promise 6", "Throws `IndexOutOfBoundsException` if there is no such wheel");
        GritWheels x = Made.full();
        Due.areOutside("none yet: ring", x, x::ring, -1, 0);
        GritWheels y = Made.withWheels();
        Due.areOutside("four: ring", y, y::ring, -1, 4, 59);
        GritWheels z = Made.withSixtyWheels();
        Due.areOutside("sixty: ring", z, z::ring, -1, 60);
    }

    private static void ringByHowItIs() {
        Doc.says("Promise 6", "Throws `IllegalStateException` if it is shipped or broken");
        GritWheels x = Made.withEachKind();
        Due.isUntimely("a broken one", x, () -> x.ring(0));
        Due.isUntimely("a shipped one", x, () -> x.ring(1));
        Due.is("a loaded one", 14, x.ring(2));
        Due.is("a dressed one", 27, x.ring(3));
        Due.is("a rough one", 18, x.ring(4));
    }

    private static void ringAnswersItsTone() {
        Doc.says("Promise 6", "Returns its tone.");
        GritWheels x = Made.withWheels();
        Due.areFacts("sound, a crack, a crack at size 6, sound", new int[] {27, 18, 14, 27}, x::ring);
    }

    private static void smashGivesHalfOfTheSize() {
        Doc.says("Promise 7", "its bed has half (cut) of its size more stone");
        int[][] daySkillMore = {{10, 1, 0}, {12, 1, 1}, {10, 4, 1}, {10, 6, 2}, {10, 8, 2}, {12, 8, 3}};
        for (int[] due : daySkillMore) {
            GritWheels x = Made.behindWork(due[0], 1, 0, 100, due[1]);
            x.pass(1);
            int stone = x.bed(1, 2);
            Due.is("size " + x.wheel(0, 1), stone + due[2], x.smash(0));
            Due.is("the stone of no other bed", 0, x.bed(0, 2));
        }
    }

    /**
     * No run comes above 199: a wheel gives back less than it took, unless it took the last stone; and above
     * none at all, sixty wheels give back 180 at most.
     */
    private static void smashNearTheMostStone() {
        Doc.says("Promise 7", "more stone (200 at most)");
        GritWheels x = Made.behindWork(10, 1, 0, 200, 1);
        x.pass(1);
        Due.is("199 and nothing of size 1", 199, x.smash(0));
        GritWheels y = Made.behindWork(12, 1, 0, 200, 1);
        y.pass(1);
        Due.is("198 and 1 of size 2", 199, y.smash(0));
        Due.is("stone is no more than that", 199, y.bed(1, 2));
    }

    private static void smashOntoNoStone() {
        Doc.says("Promise 7", "Returns the stone of the bed then.");
        GritWheels x = Made.at(1, 0, 1, 9);
        x.pass(2);
        Due.is("stone", 0, x.bed(0, 2));
        Due.is("more stone than there was at first", 2, x.smash(0));
        Due.is("stone then", 2, x.bed(0, 2));
        Due.is("of this a wheel is cut again", 1, x.pass(1));
    }

    private static void smashTheFirstAndTheLast() {
        Doc.says("Promise 7", "Breaks a wheel up");
        Doc.says("Promise 7", "`wheel`: the wheel");
        GritWheels x = Made.withSixtyWheels();
        Due.is("the first, of bed 0", 200 - 2 * 53 + 2, x.smash(0));
        Due.is("the last, of bed 0", 200 - 2 * 53 + 4, x.smash(59));
        Due.is("the first is broken", 4, x.wheel(0, 3));
        Due.is("the last is broken", 4, x.wheel(59, 3));
        Due.is("no other is", 1, x.wheel(1, 3));
        Due.is("nor this one", 0, x.wheel(58, 3));
    }

    private static void smashNoSuchWheel() {
        Doc.says("Promise 7", "Throws `IndexOutOfBoundsException` if there is no such wheel");
        GritWheels x = Made.full();
        Due.areOutside("none yet: smash", x, x::smash, -1, 0);
        GritWheels y = Made.withWheels();
        Due.areOutside("four: smash", y, y::smash, -1, 4, 59);
        GritWheels z = Made.withSixtyWheels();
        Due.areOutside("sixty: smash", z, z::smash, -1, 60);
    }

    private static void smashByHowItIs() {
        Doc.says("Promise 7", "Throws `IllegalStateException` if it is loaded, shipped or broken");
        GritWheels x = Made.withEachKind();
        Due.isUntimely("a broken one", x, () -> x.smash(0));
        Due.isUntimely("a shipped one", x, () -> x.smash(1));
        Due.isUntimely("a loaded one", x, () -> x.smash(2));
        int stone = x.bed(0, 2);
        Due.is("a dressed one", stone + 2, x.smash(3));
        Due.is("a rough one", stone + 4, x.smash(4));
    }

    private static void raftsAtTheirEnds() {
        Doc.says("Promise 8", "`carries`: how much weight a new raft carries");
        Doc.says("Terms", "each carries 20 to 400 of weight, is at the quay (at first)");
        GritWheels x = new GritWheels();
        x.build(20);
        x.build(400);
        Due.areFacts("the least", new int[] {20, 20, 0, 0}, what -> x.raft(0, what));
        Due.areFacts("the most", new int[] {400, 400, 0, 0}, what -> x.raft(1, what));
    }

    private static void raftsRefused() {
        Doc.says("Promise 8", "Throws `IllegalArgumentException` if carries is not 20 to 400");
        GritWheels x = new GritWheels();
        Due.areIllegal("build", x, x::build, -1, 0, 19, 401);
        Due.is("the first behind these", 0, x.build(20));
    }

    private static void raftNumbersAndTheFourth() {
        Doc.says("Promise 8", "Returns its number.");
        Doc.says("Promise 8", "Throws `IllegalStateException` if there are 3");
        Doc.says("Terms", "There are at most 3, numbered likewise");
        GritWheels x = new GritWheels();
        for (int number = 0; number < 3; number++) {
            Due.is("build", number, x.build(33 - number));
        }
        Due.areFacts("carries", new int[] {33, 32, 31}, raft -> x.raft(raft, 0));
        Due.isUntimely("a fourth, the least", x, () -> x.build(20));
        Due.isUntimely("a fourth, the most", x, () -> x.build(400));
    }

    private static void loadADressedWheel() {
        Doc.says("Promise 9", "Loads a dressed wheel onto a raft.");
        Doc.says("Promise 9", "Returns how much weight the raft still carries then.");
        GritWheels x = Made.withWheels();
        x.build(400);
        x.build(400);
        Due.is("size 5", 350, x.load(0, 1));
        Due.is("size 6", 278, x.load(2, 1));
        Due.areFacts("the raft", new int[] {400, 278, 2, 0}, what -> x.raft(1, what));
        Due.areFacts("the other raft", new int[] {400, 400, 0, 0}, what -> x.raft(0, what));
        Due.areFacts("the wheel", new int[] {0, 6, 72, 2, 25, 1}, what -> x.wheel(2, what));
    }

    private static void loadTheFirstAndTheLast() {
        Doc.says("Promise 9", "`wheel`: the wheel");
        Doc.says("Promise 9", "`raft`: the raft");
        GritWheels x = Made.withSixtyWheels();
        x.pass(40);
        Due.is("the first onto the last", 350, x.load(0, 2));
        Due.is("the last onto the first", 350, x.load(59, 0));
        Due.is("the raft of the first", 2, x.wheel(0, 5));
        Due.is("the raft of the last", 0, x.wheel(59, 5));
    }

    private static void loadNoSuchWheelOrRaft() {
        Doc.says("Promise 9", "Throws `IndexOutOfBoundsException` if there is no such wheel or raft");
        GritWheels noWheel = Made.full();
        Due.areOutside("no wheel yet: load(.., 0)", noWheel, wheel -> noWheel.load(wheel, 0), -1, 0);
        GritWheels noRaft = Made.withWheels();
        Due.areOutside("no raft yet: load(0, ..)", noRaft, raft -> noRaft.load(0, raft), -1, 0);
        noRaft.build(400);
        Due.areOutside("one raft: load(0, ..)", noRaft, raft -> noRaft.load(0, raft), -1, 1);
        Due.areOutside("four wheels: load(.., 0)", noRaft, wheel -> noRaft.load(wheel, 0), -1, 4, 59);
        GritWheels all = Made.withSixtyWheels();
        Due.areOutside("sixty wheels: load(.., 2)", all, wheel -> all.load(wheel, 2), -1, 60);
        Due.areOutside("three rafts: load(0, ..)", all, raft -> all.load(0, raft), -1, 3);
    }

    private static void loadByHowItIs() {
        Doc.says("Promise 9", "Throws `IllegalStateException` if the wheel is not dressed");
        GritWheels x = Made.withEachKind();
        x.build(400);
        Due.isUntimely("a broken one", x, () -> x.load(0, 2));
        Due.isUntimely("a shipped one", x, () -> x.load(1, 2));
        Due.isUntimely("a loaded one", x, () -> x.load(2, 2));
        Due.isUntimely("a loaded one onto its raft", x, () -> x.load(2, 1));
        Due.isUntimely("a rough one", x, () -> x.load(4, 2));
        Due.is("a dressed one", 350, x.load(3, 2));
    }

    private static void loadAway() {
        Doc.says("Promise 9", "the raft is away");
        GritWheels x = Made.withEachKind();
        Due.isUntimely("on the day it went", x, () -> x.load(3, 0));
        x.pass(3);
        Due.isUntimely("on the last day away", x, () -> x.load(3, 0));
        x.pass(1);
        Due.is("on the first day back", 350, x.load(3, 0));
    }

    private static void loadJustFull() {
        Doc.says("Promise 9", "or it would be too heavy");
        GritWheels x = Made.withWheels();
        x.build(50);
        x.build(100);
        x.build(72);
        Due.is("50 onto 50", 0, x.load(0, 0));
        Due.is("50 onto 100", 50, x.load(1, 1));
        Due.is("50 onto the other 50", 0, x.load(3, 1));
        Due.is("72 onto 72", 0, x.load(2, 2));
        Due.areFacts("a full raft", new int[] {100, 0, 2, 0}, what -> x.raft(1, what));
    }

    private static void loadTooHeavyByTheLeast() {
        Doc.says("Promise 9", "or it would be too heavy");
        GritWheels x = Made.withWheels();
        x.build(49);
        x.build(99);
        x.build(71);
        Due.isUntimely("50 onto 49", x, () -> x.load(0, 0));
        Due.is("50 onto 99", 49, x.load(0, 1));
        Due.isUntimely("50 onto the other 49", x, () -> x.load(1, 1));
        Due.isUntimely("72 onto 71", x, () -> x.load(2, 2));
        Due.is("the wheel is dressed still", 1, x.wheel(2, 3));
        Due.is("50 onto 71", 21, x.load(1, 2));
    }

    private static void loadTheLeastRaftWithTheLeastWheels() {
        Doc.says("Promise 9", "or it would be too heavy");
        GritWheels x = Made.behindWork(109, 1, 0, 200, 1);
        Made.setWholeFall(x, 9);
        Due.is("wheels of size 1", 11, x.pass(1));
        x.pass(2);
        x.build(20);
        for (int wheel = 0; wheel < 10; wheel++) {
            Due.is("weight 2, wheel " + wheel, 18 - 2 * wheel, x.load(wheel, 0));
        }
        Due.isUntimely("an eleventh", x, () -> x.load(10, 0));
        Due.areFacts("the raft", new int[] {20, 0, 10, 0}, what -> x.raft(0, what));
    }

    private static void loadTheLargestRaft() {
        Doc.says("Promise 9", "or it would be too heavy");
        GritWheels x = Made.withSixtyWheels();
        for (int wheel = 0; wheel < 8; wheel++) {
            Due.is("weight 50, wheel " + wheel, 350 - 50 * wheel, x.load(wheel, 0));
        }
        Due.isUntimely("a ninth", x, () -> x.load(8, 0));
        Due.areFacts("the raft", new int[] {400, 0, 8, 0}, what -> x.raft(0, what));
        Due.is("eight of 60 go", 8 * 135, x.ship(0));
        Due.areFacts("the raft then", new int[] {400, 400, 0, 1}, what -> x.raft(0, what));
    }

    private static void shipTheFirstAndTheLast() {
        Doc.says("Promise 10", "Has a raft go: its wheels are shipped, and paid.");
        Doc.says("Promise 10", "`raft`: the raft");
        GritWheels x = Made.withWheels();
        x.build(400);
        x.build(400);
        x.build(400);
        x.load(0, 0);
        x.load(1, 1);
        x.load(2, 2);
        Due.is("the last", 25, x.ship(2));
        Due.areFacts("away", new int[] {0, 0, 1}, raft -> x.raft(raft, 3));
        Due.areFacts("how the wheels are", new int[] {2, 2, 3, 1}, wheel -> x.wheel(wheel, 3));
        Due.areFacts("the raft of each", new int[] {0, 1, -1, -1}, wheel -> x.wheel(wheel, 5));
        Due.is("paid", 25, x.count(8));
        Due.is("the first", 105, x.ship(0));
        Due.areFacts("away then", new int[] {1, 0, 1}, raft -> x.raft(raft, 3));
        Due.is("paid then", 130, x.count(8));
    }

    private static void shipNoSuchRaft() {
        Doc.says("Promise 10", "Throws `IndexOutOfBoundsException` if there is no such raft");
        GritWheels x = Made.withWheels();
        Due.areOutside("none yet: ship", x, x::ship, -1, 0);
        x.build(400);
        x.load(0, 0);
        Due.areOutside("one: ship", x, x::ship, -1, 1);
        GritWheels y = Made.full();
        Due.areOutside("three: ship", y, y::ship, -1, 3);
    }

    private static void shipAwayOrEmpty() {
        Doc.says("Promise 10", "Throws `IllegalStateException` if it is away, or has none");
        GritWheels x = Made.withWheels();
        x.build(400);
        Due.isUntimely("with none at first", x, () -> x.ship(0));
        x.load(0, 0);
        Due.is("with one", 105, x.ship(0));
        Due.isUntimely("on the day it went", x, () -> x.ship(0));
        x.pass(3);
        Due.isUntimely("on the last day away", x, () -> x.ship(0));
        x.pass(1);
        Due.isUntimely("on the first day back, with none", x, () -> x.ship(0));
        x.load(1, 0);
        Due.is("on the first day back, with one", 21, x.ship(0));
    }

    private static void shipByTheWater() {
        Doc.says("Promise 10", "or the water of this day is less than 2");
        for (int water = 0; water <= 9; water++) {
            GritWheels x = Made.withWheels();
            x.build(400);
            x.load(0, 0);
            x.setFall(5, water);
            x.setFall(4, 9 - water);
            x.setFall(6, 9 - water);
            if (water < 2) {
                Due.isUntimely("with water " + water, x, () -> x.ship(0));
            } else {
                Due.is("with water " + water, 105, x.ship(0));
            }
        }
    }

    private static void shipAllOrNothingsWorth() {
        Doc.says("Promise 10", "Returns their worth, added.");
        GritWheels x = Made.withWheels();
        x.build(400);
        for (int wheel = 0; wheel < 4; wheel++) {
            x.load(wheel, 0);
        }
        Due.is("all four", 105 + 21 + 25 + 105, x.ship(0));
        GritWheels y = Made.behindWork(10, 9, 4, 200, 1);
        y.pass(1);
        y.build(20);
        y.load(0, 0);
        Due.is("one that is worth nothing", 0, y.ship(0));
        Due.is("paid for it", 0, y.count(8));
        Due.is("it is shipped", 1, y.count(7));
        Due.is("the raft is away", 1, y.raft(0, 3));
    }
}
