/** Promises 6 to 10: ring, smash, build, load, ship. */
public final class WheelsAndRaftsTest {
    private static final int LEAST = Integer.MIN_VALUE;
    private static final int MOST = Integer.MAX_VALUE;

    public static void main(String[] args) {
        ring();
        ringRefused();
        smash();
        smashAtMost();
        smashRefused();
        build();
        load();
        loadRefused();
        ship();
        shipRefused();
        Due.end();
    }

    /** Skill 9 at grit 3 and flaw 4: one wheel a day from day 1, of size 5, on days 3, 6 .. of size 6. */
    private static GritWheels withWheels(int days) {
        GritWheels x = new GritWheels();
        x.open(3, 4, 200);
        x.hire(9);
        x.send(0, 0);
        x.pass(days);
        return x;
    }

    private static void ring() {
        GritWheels x = withWheels(5);
        Due.is("wheels", 4, x.count(3));
        // (7 * n + 3 * size) % 10 is 5, 2, 2, 6 for n = 0 to 3, with the sizes 5, 5, 6, 5
        Due.is("sound, size 5", 27, x.ring(0));
        Due.is("a crack, size 5", 18, x.ring(1));
        Due.is("a crack, size 6", 14, x.ring(2));
        Due.is("sound, size 5, n 3", 27, x.ring(3));
        x.build(400);
        x.load(1, 0);
        Due.is("a loaded wheel rings", 18, x.ring(1));
        x.setFall(5, 0);
        x.pass(1);
        Due.is("a wheel is rough", 0, x.wheel(4, 3));
        Due.is("a rough wheel rings, with a crack by 3", 18, x.ring(4));
    }

    private static void ringRefused() {
        GritWheels x = withWheels(5);
        for (int wheel : new int[] {-1, 4, 60, LEAST, MOST}) {
            Due.isOutside("ring(" + wheel + ")", x, () -> x.ring(wheel));
        }
        x.smash(0);
        Due.isUntimely("ring a broken one", x, () -> x.ring(0));
        x.build(400);
        x.load(1, 0);
        x.ship(0);
        Due.isUntimely("ring a shipped one", x, () -> x.ring(1));
    }

    private static void smash() {
        GritWheels x = withWheels(5);
        Due.is("stone", 179, x.bed(0, 2));
        Due.is("half of 5 more stone", 181, x.smash(0));
        Due.is("half of 6 more stone", 184, x.smash(2));
        Due.is("stone then", 184, x.bed(0, 2));
        Due.is("it is broken", 4, x.wheel(0, 3));
        Due.is("its worth", 0, x.wheel(0, 4));
        Due.is("its size", 5, x.wheel(0, 1));
        Due.is("wheels in all", 4, x.count(3));
        Due.is("dressed ones", 2, x.count(5));
        Due.is("of the bed in all", 4, x.bed(0, 4));
        Due.is("sound ones, with the broken one", 2, x.bed(0, 5));
        x.setFall(5, 0);
        x.pass(1);
        Due.is("a rough one is smashed", 181, x.smash(4));
        Due.is("rough ones", 0, x.count(4));
    }

    private static void smashAtMost() {
        GritWheels x = new GritWheels();
        x.open(3, 4, 4);
        x.open(1, 0, 200);
        x.hire(9);
        x.send(0, 1);
        x.pass(2);
        Due.is("stone of the other bed", 195, x.bed(1, 2));
        Due.is("stone of the wheel's bed", 197, x.smash(0));
        Due.is("stone of the first bed", 4, x.bed(0, 2));
        GritWheels y = new GritWheels();
        y.open(1, 0, 200);
        y.hire(1);
        y.hire(1);
        y.send(0, 0);
        y.send(1, 0);
        y.setFall(0, 0);
        y.pass(10);
        Due.is("two wheels of size 2 on day 9", 196, y.bed(0, 2));
        Due.is("one is smashed", 197, y.smash(0));
        Due.is("both are smashed", 198, y.smash(1));
    }

    private static void smashRefused() {
        GritWheels x = withWheels(5);
        for (int wheel : new int[] {-1, 4, LEAST, MOST}) {
            Due.isOutside("smash(" + wheel + ")", x, () -> x.smash(wheel));
        }
        x.smash(0);
        Due.isUntimely("smash a broken one", x, () -> x.smash(0));
        x.build(400);
        x.load(1, 0);
        Due.isUntimely("smash a loaded one", x, () -> x.smash(1));
        x.ship(0);
        Due.isUntimely("smash a shipped one", x, () -> x.smash(1));
    }

    private static void build() {
        GritWheels x = new GritWheels();
        for (int carries : new int[] {-1, 0, 19, 401, LEAST, MOST}) {
            Due.isIllegal("build(" + carries + ")", x, () -> x.build(carries));
        }
        int[] carries = {20, 400, 33};
        for (int i = 0; i < 3; i++) {
            Due.is("build " + i, i, x.build(carries[i]));
            Due.is("carries", carries[i], x.raft(i, 0));
            Due.is("still carries", carries[i], x.raft(i, 1));
            Due.is("wheels upon it", 0, x.raft(i, 2));
            Due.is("away", 0, x.raft(i, 3));
        }
        Due.isUntimely("a fourth raft", x, () -> x.build(20));
        Due.isIllegal("a fourth raft that is too small", x, () -> x.build(19));
    }

    private static void load() {
        GritWheels x = withWheels(5);
        x.build(122);
        x.build(171);
        Due.is("50 of 122", 72, x.load(0, 0));
        Due.is("72 of 72", 0, x.load(2, 0));
        Due.is("50 of 171", 121, x.load(1, 1));
        Due.is("it is loaded", 2, x.wheel(2, 3));
        Due.is("its raft", 0, x.wheel(2, 5));
        Due.is("the raft of another", 1, x.wheel(1, 5));
        Due.is("not loaded, no raft", -1, x.wheel(3, 5));
        Due.is("the raft's wheels", 2, x.raft(0, 2));
        Due.is("what it still carries", 0, x.raft(0, 1));
        Due.is("what it carries", 122, x.raft(0, 0));
        Due.is("loaded ones", 3, x.count(6));
        Due.is("dressed ones", 1, x.count(5));
    }

    private static void loadRefused() {
        GritWheels x = withWheels(5);
        Due.isOutside("load without rafts", x, () -> x.load(0, 0));
        x.build(49);
        x.build(400);
        for (int wheel : new int[] {-1, 4, LEAST, MOST}) {
            Due.isOutside("load(" + wheel + ", 1)", x, () -> x.load(wheel, 1));
        }
        for (int raft : new int[] {-1, 2, 3, LEAST, MOST}) {
            Due.isOutside("load(0, " + raft + ")", x, () -> x.load(0, raft));
        }
        Due.isUntimely("50 onto 49", x, () -> x.load(0, 0));
        Due.is("50 onto 400", 350, x.load(0, 1));
        Due.isUntimely("a loaded one", x, () -> x.load(0, 1));
        x.smash(3);
        Due.isUntimely("a broken one", x, () -> x.load(3, 1));
        Due.isOutside("a broken one onto no raft", x, () -> x.load(3, 2));
        x.ship(1);
        Due.isUntimely("onto a raft that is away", x, () -> x.load(1, 1));
        Due.isUntimely("a shipped one", x, () -> x.load(0, 0));
        x.setFall(5, 0);
        x.pass(1);
        x.build(60);
        Due.isUntimely("a rough one", x, () -> x.load(4, 2));
    }

    private static void ship() {
        GritWheels x = withWheels(5);
        x.build(400);
        x.build(60);
        x.load(0, 0);
        x.load(2, 0);
        x.load(1, 1);
        // sound: 5 * 7 * 3 = 105; a crack: 6 * 7 * 3 / 5 = 25
        x.setFall(5, 2);
        Due.is("their worth, added", 130, x.ship(0));
        Due.is("coins", 130, x.count(8));
        Due.is("it is away", 1, x.raft(0, 3));
        Due.is("wheels upon it", 0, x.raft(0, 2));
        Due.is("what it still carries", 400, x.raft(0, 1));
        Due.is("the wheel is shipped", 3, x.wheel(0, 3));
        Due.is("its worth", 105, x.wheel(0, 4));
        Due.is("no raft any more", -1, x.wheel(0, 5));
        Due.is("the other raft is there", 0, x.raft(1, 3));
        Due.is("its wheel is loaded", 2, x.wheel(1, 3));
        Due.is("shipped ones", 2, x.count(7));
        Due.is("loaded ones", 1, x.count(6));
        x.pass(1);
        Due.is("a crack: 105 / 5", 21, x.ship(1));
        Due.is("coins, added", 151, x.count(8));
        x.pass(2);
        Due.is("away on the third day", 1, x.raft(0, 3));
        x.pass(1);
        Due.is("back on the fourth day", 0, x.raft(0, 3));
        Due.is("the other is away still", 1, x.raft(1, 3));
        x.load(3, 0);
        Due.is("goes anew", 105, x.ship(0));
        Due.is("coins, added anew", 256, x.count(8));
        x.pass(1);
        Due.is("the other is back", 0, x.raft(1, 3));
    }

    private static void shipRefused() {
        GritWheels x = withWheels(5);
        Due.isOutside("ship without rafts", x, () -> x.ship(0));
        x.build(100);
        x.build(100);
        for (int raft : new int[] {-1, 2, 3, LEAST, MOST}) {
            Due.isOutside("ship(" + raft + ")", x, () -> x.ship(raft));
        }
        Due.isUntimely("ship an empty one", x, () -> x.ship(0));
        x.load(0, 0);
        x.load(1, 1);
        x.setFall(5, 1);
        Due.isUntimely("ship with water 1", x, () -> x.ship(0));
        x.setFall(5, 0);
        Due.isUntimely("ship with water 0", x, () -> x.ship(0));
        x.setFall(5, 2);
        Due.is("ship with water 2", 105, x.ship(0));
        Due.isUntimely("ship what is away", x, () -> x.ship(0));
        x.pass(4);
        Due.isUntimely("ship what is back, without wheels", x, () -> x.ship(0));
    }
}
