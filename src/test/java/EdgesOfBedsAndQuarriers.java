/** The edges of promises 1 to 5: a new object, setFall, open, hire, send. */
final class EdgesOfBedsAndQuarriers {
    private EdgesOfBedsAndQuarriers() {
    }

    static void look() {
        nothingIsThereYet();
        firstAndLastDayOfTheTable();
        dayRefused();
        leastAndMostWater();
        waterRefused();
        waterBefore();
        bedsAtTheirEnds();
        bedsRefused();
        bedNumbersAndTheSixth();
        skillsAtTheirEnds();
        skillsRefused();
        quarrierNumbersAndTheSeventh();
        sendTheFirstAndTheLast();
        sendRefusedQuarriers();
        sendRefusedBeds();
        sendToAndFromNone();
    }

    private static void nothingIsThereYet() {
        Doc.says("Promise 1", "Creates a quarry without beds and quarriers, on the day 0.");
        GritWheels x = new GritWheels();
        Due.areFacts("count", new int[] {0, 5, 1, 0, 0, 0, 0, 0, 0, 0}, x::count);
        Due.areOutside("bed(.., 0)", x, bed -> x.bed(bed, 0), -1, 0);
        Due.areOutside("quarrier(.., 0)", x, quarrier -> x.quarrier(quarrier, 0), -1, 0);
        Due.areOutside("wheel(.., 0)", x, wheel -> x.wheel(wheel, 0), -1, 0);
        Due.areOutside("raft(.., 0)", x, raft -> x.raft(raft, 0), -1, 0);
    }

    private static void firstAndLastDayOfTheTable() {
        Doc.says("Promise 2", "`day`: a day of the table, 0 to 8");
        GritWheels x = new GritWheels();
        Due.is("setFall(0, 7)", 5, x.setFall(0, 7));
        Due.is("setFall(8, 6)", 5, x.setFall(8, 6));
        Due.is("the water of day 0", 7, x.count(1));
        for (int day = 1; day <= 7; day++) {
            x.pass(1);
            Due.is("the water of day " + day, 5, x.count(1));
        }
        x.pass(1);
        Due.is("the water of day 8", 6, x.count(1));
    }

    private static void dayRefused() {
        Doc.says("Promise 2", "Throws `IndexOutOfBoundsException` if day is not 0 to 8");
        GritWheels x = new GritWheels();
        Due.areOutside("setFall(.., 0)", x, day -> x.setFall(day, 0), -1, 9);
        Due.areOutside("setFall(.., 9)", x, day -> x.setFall(day, 9), -1, 9);
    }

    private static void leastAndMostWater() {
        Doc.says("Promise 2", "`water`: its water");
        GritWheels x = new GritWheels();
        Due.is("setFall(0, 0)", 5, x.setFall(0, 0));
        Due.is("the least", 0, x.count(1));
        Due.is("setFall(0, 9)", 0, x.setFall(0, 9));
        Due.is("the most", 9, x.count(1));
    }

    private static void waterRefused() {
        Doc.says("Promise 2", "Throws `IllegalArgumentException` if water is not 0 to 9");
        GritWheels x = new GritWheels();
        Due.areIllegal("setFall(0, ..)", x, water -> x.setFall(0, water), -1, 10);
        Due.areIllegal("setFall(8, ..)", x, water -> x.setFall(8, water), -1, 10);
        Due.is("the water of day 0", 5, x.setFall(0, 0));
        Due.is("the water of day 8", 5, x.setFall(8, 0));
    }

    private static void waterBefore() {
        Doc.says("Promise 2", "Returns the water before.");
        GritWheels x = new GritWheels();
        Due.is("at first", 5, x.setFall(3, 9));
        Due.is("then", 9, x.setFall(3, 9));
        Due.is("the same once more", 9, x.setFall(3, 0));
        Due.is("and none", 0, x.setFall(3, 4));
    }

    private static void bedsAtTheirEnds() {
        Doc.says("Promise 3", "`grit`: the grit of a new bed");
        Doc.says("Promise 3", "`flaw`: its flaw");
        Doc.says("Promise 3", "`stone`: its stone");
        Doc.says("Terms", "each has grit, 1 to 9, a flaw, 0 to 9, and stone, 0 to 200");
        GritWheels x = new GritWheels();
        int[][] beds = {{1, 0, 0}, {9, 0, 0}, {1, 9, 0}, {1, 0, 200}, {9, 9, 200}};
        for (int[] bed : beds) {
            int number = x.open(bed[0], bed[1], bed[2]);
            Due.areFacts("bed " + number, bed, what -> x.bed(number, what));
        }
    }

    private static void bedsRefused() {
        Doc.says("Promise 3",
            "Throws `IllegalArgumentException` if grit is not 1 to 9, flaw is not 0 to 9, or stone is not 0 to 200");
        GritWheels x = new GritWheels();
        Due.areIllegal("open(.., 0, 0)", x, grit -> x.open(grit, 0, 0), -1, 0, 10);
        Due.areIllegal("open(.., 9, 200)", x, grit -> x.open(grit, 9, 200), -1, 0, 10);
        Due.areIllegal("open(1, .., 0)", x, flaw -> x.open(1, flaw, 0), -1, 10);
        Due.areIllegal("open(9, .., 200)", x, flaw -> x.open(9, flaw, 200), -1, 10);
        Due.areIllegal("open(1, 0, ..)", x, stone -> x.open(1, 0, stone), -1, 201);
        Due.areIllegal("open(9, 9, ..)", x, stone -> x.open(9, 9, stone), -1, 201);
        Due.is("the first bed behind these", 0, x.open(1, 0, 0));
    }

    private static void bedNumbersAndTheSixth() {
        Doc.says("Promise 3", "Returns its number.");
        Doc.says("Promise 3", "Throws `IllegalStateException` if there are 5");
        Doc.says("Terms", "There are at most 5, numbered from 0 in the order of their opening");
        GritWheels x = new GritWheels();
        for (int number = 0; number < 5; number++) {
            Due.is("open", number, x.open(9 - number, 0, 0));
        }
        Due.areFacts("grit", new int[] {9, 8, 7, 6, 5}, bed -> x.bed(bed, 0));
        Due.isUntimely("a sixth, the least", x, () -> x.open(1, 0, 0));
        Due.isUntimely("a sixth, the most", x, () -> x.open(9, 9, 200));
    }

    private static void skillsAtTheirEnds() {
        Doc.says("Promise 4", "`skill`: the skill of a new quarrier");
        Doc.says("Terms", "each has skill, 1 to 9, is at a bed, or at none (at first)");
        GritWheels x = new GritWheels();
        Due.is("hire(1)", 0, x.hire(1));
        Due.is("hire(9)", 1, x.hire(9));
        Due.areFacts("the least", new int[] {1, -1, 0, 0, -1}, what -> x.quarrier(0, what));
        Due.areFacts("the most", new int[] {9, -1, 0, 0, -1}, what -> x.quarrier(1, what));
    }

    private static void skillsRefused() {
        Doc.says("Promise 4", "Throws `IllegalArgumentException` if skill is not 1 to 9");
        GritWheels x = new GritWheels();
        Due.areIllegal("hire", x, x::hire, -1, 0, 10);
        Due.is("the first behind these", 0, x.hire(1));
    }

    private static void quarrierNumbersAndTheSeventh() {
        Doc.says("Promise 4", "Returns the number.");
        Doc.says("Promise 4", "Throws `IllegalStateException` if there are 6");
        Doc.says("Terms", "There are at most 6, numbered likewise");
        GritWheels x = new GritWheels();
        for (int number = 0; number < 6; number++) {
            Due.is("hire", number, x.hire(9 - number));
        }
        Due.areFacts("skill", new int[] {9, 8, 7, 6, 5, 4}, quarrier -> x.quarrier(quarrier, 0));
        Due.isUntimely("a seventh, the least", x, () -> x.hire(1));
        Due.isUntimely("a seventh, the most", x, () -> x.hire(9));
    }

    private static void sendTheFirstAndTheLast() {
        Doc.says("Promise 5", "`quarrier`: a quarrier");
        Doc.says("Promise 5", "`bed`: the bed to which this one goes; -1 for none");
        GritWheels x = Made.full();
        Due.is("send(0, 0)", -1, x.send(0, 0));
        Due.is("send(5, 4)", -1, x.send(5, 4));
        Due.is("the bed of the first", 0, x.quarrier(0, 1));
        Due.is("the bed of the last", 4, x.quarrier(5, 1));
        for (int quarrier = 1; quarrier < 5; quarrier++) {
            Due.is("the bed of quarrier " + quarrier, -1, x.quarrier(quarrier, 1));
        }
    }

    private static void sendRefusedQuarriers() {
        Doc.says("Promise 5", "Throws `IndexOutOfBoundsException` if there is no such quarrier");
        GritWheels x = new GritWheels();
        x.open(1, 0, 0);
        Due.areOutside("nobody yet: send(.., 0)", x, quarrier -> x.send(quarrier, 0), -1, 0);
        Due.areOutside("nobody yet: send(.., -1)", x, quarrier -> x.send(quarrier, -1), -1, 0);
        x.hire(9);
        Due.areOutside("one: send(.., 0)", x, quarrier -> x.send(quarrier, 0), -1, 1);
        GritWheels y = Made.full();
        Due.areOutside("six: send(.., 0)", y, quarrier -> y.send(quarrier, 0), -1, 6);
        Due.areOutside("six: send(.., 5)", y, quarrier -> y.send(quarrier, 5), -1, 6);
    }

    private static void sendRefusedBeds() {
        Doc.says("Promise 5", "or bed is neither -1 nor a bed");
        GritWheels x = new GritWheels();
        x.hire(9);
        Due.areOutside("no bed yet: send(0, ..)", x, bed -> x.send(0, bed), -2, 0);
        x.open(1, 0, 0);
        Due.areOutside("one bed: send(0, ..)", x, bed -> x.send(0, bed), -2, 1);
        GritWheels y = Made.full();
        Due.areOutside("five beds: send(5, ..)", y, bed -> y.send(5, bed), -2, 5);
    }

    private static void sendToAndFromNone() {
        Doc.says("Promise 5", "Returns the bed before, -1 for none.");
        GritWheels x = Made.full();
        Due.is("none to none", -1, x.send(5, -1));
        Due.is("none to 4", -1, x.send(5, 4));
        Due.is("4 to 4", 4, x.send(5, 4));
        Due.is("4 to 0", 4, x.send(5, 0));
        Due.is("0 to none", 0, x.send(5, -1));
        Due.is("none again", -1, x.send(5, 0));
        GritWheels y = new GritWheels();
        y.hire(1);
        Due.is("none to none, without beds", -1, y.send(0, -1));
    }
}
