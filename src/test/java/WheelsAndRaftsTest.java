/** Promises 6 to 10: ring, smash, build, load, ship. */
public final class WheelsAndRaftsTest {
    public static void main(String[] args) {
        ring();
        smash();
        smashAtMost();
        build();
        load();
        ship();
        Due.end();
    }

    private static void ring() {
        GritWheels x = Made.withWheels();
        Due.is("wheels", 4, x.count(3));
        // (7 * n + 3 * size) % 10 is 5, 2, 2, 6 for n = 0 to 3, with the sizes 5, 5, 6, 5
        Due.is("sound, size 5", 27, x.ring(0));
        Due.is("a crack, size 5", 18, x.ring(1));
        Due.is("a crack, size 6", 14, x.ring(2));
        Due.is("sound, size 5, n 3", 27, x.ring(3));
        x.build(400);
        x.load(1, 0);
        Due.is("a loaded wheel rings", 18, x.ring(1));
        x.setFall(5, 0);
        x.pass(1);
        Due.is("a wheel is rough", 0, x.wheel(4, 3));
        Due.is("a rough wheel rings, with a crack by 3", 18, x.ring(4));
    }

    private static void smash() {
        GritWheels x = Made.withWheels();
        Due.is("stone", 179, x.bed(0, 2));
        Due.is("half of 5 more stone", 181, x.smash(0));
        Due.is("half of 6 more stone", 184, x.smash(2));
        Due.is("stone then", 184, x.bed(0, 2));
        Due.is("it is broken", 4, x.wheel(0, 3));
        Due.is("its worth", 0, x.wheel(0, 4));
        Due.is("its size", 5, x.wheel(0, 1));
        Due.is("wheels in all", 4, x.count(3));
        Due.is("dressed ones", 2, x.count(5));
        Due.is("of the bed in all", 4, x.bed(0, 4));
        Due.is("sound ones, with the broken one", 2, x.bed(0, 5));
        x.setFall(5, 0);
        x.pass(1);
        Due.is("a rough one is smashed", 181, x.smash(4));
        Due.is("rough ones", 0, x.count(4));
    }

    private static void smashAtMost() {
        GritWheels x = new GritWheels();
        x.open(3, 4, 4);
        x.open(1, 0, 200);
        x.hire(9);
        x.send(0, 1);
        x.pass(2);
        Due.is("stone of the other bed", 195, x.bed(1, 2));
        Due.is("stone of the wheel's bed", 197, x.smash(0));
        Due.is("stone of the first bed", 4, x.bed(0, 2));
        GritWheels y = new GritWheels();
        y.open(1, 0, 200);
        y.hire(1);
        y.hire(1);
        y.send(0, 0);
        y.send(1, 0);
        y.setFall(0, 0);
        y.pass(10);
        Due.is("two wheels of size 2 on day 9", 196, y.bed(0, 2));
        Due.is("one is smashed", 197, y.smash(0));
        Due.is("both are smashed", 198, y.smash(1));
    }

    private static void build() {
        GritWheels x = new GritWheels();
        int[] carries = {20, 400, 33};
        for (int i = 0; i < 3; i++) {
            Due.is("build " + i, i, x.build(carries[i]));
            Due.is("carries", carries[i], x.raft(i, 0));
            Due.is("still carries", carries[i], x.raft(i, 1));
            Due.is("wheels upon it", 0, x.raft(i, 2));
            Due.is("away", 0, x.raft(i, 3));
        }
    }

    private static void load() {
        GritWheels x = Made.withWheels();
        x.build(122);
        x.build(171);
        Due.is("50 of 122", 72, x.load(0, 0));
        Due.is("72 of 72", 0, x.load(2, 0));
        Due.is("50 of 171", 121, x.load(1, 1));
        Due.is("it is loaded", 2, x.wheel(2, 3));
        Due.is("its raft", 0, x.wheel(2, 5));
        Due.is("the raft of another", 1, x.wheel(1, 5));
        Due.is("not loaded, no raft", -1, x.wheel(3, 5));
        Due.is("the raft's wheels", 2, x.raft(0, 2));
        Due.is("what it still carries", 0, x.raft(0, 1));
        Due.is("what it carries", 122, x.raft(0, 0));
        Due.is("loaded ones", 3, x.count(6));
        Due.is("dressed ones", 1, x.count(5));
    }

    private static void ship() {
        GritWheels x = Made.withWheels();
        x.build(400);
        x.build(60);
        x.load(0, 0);
        x.load(2, 0);
        x.load(1, 1);
        // sound: 5 * 7 * 3 = 105; a crack: 6 * 7 * 3 / 5 = 25
        x.setFall(5, 2);
        Due.is("their worth, added", 130, x.ship(0));
        Due.is("coins", 130, x.count(8));
        Due.is("it is away", 1, x.raft(0, 3));
        Due.is("wheels upon it", 0, x.raft(0, 2));
        Due.is("what it still carries", 400, x.raft(0, 1));
        Due.is("the wheel is shipped", 3, x.wheel(0, 3));
        Due.is("its worth", 105, x.wheel(0, 4));
        Due.is("no raft any more", -1, x.wheel(0, 5));
        Due.is("the other raft is there", 0, x.raft(1, 3));
        Due.is("its wheel is loaded", 2, x.wheel(1, 3));
        Due.is("shipped ones", 2, x.count(7));
        Due.is("loaded ones", 1, x.count(6));
        x.pass(1);
        Due.is("a crack: 105 / 5", 21, x.ship(1));
        Due.is("coins, added", 151, x.count(8));
        x.pass(2);
        Due.is("away on the third day", 1, x.raft(0, 3));
        x.pass(1);
        Due.is("back on the fourth day", 0, x.raft(0, 3));
        Due.is("the other is away still", 1, x.raft(1, 3));
        x.load(3, 0);
        Due.is("goes anew", 105, x.ship(0));
        Due.is("coins, added anew", 256, x.count(8));
        x.pass(1);
        Due.is("the other is back", 0, x.raft(1, 3));
    }
}
