import java.util.Arrays;

/** Objects in states that several tests start from. */
final class Made {
    private Made() {
    }

    /** One bed and quarriers of these skills, all at it. */
    static GritWheels at(int grit, int flaw, int stone, int... skills) {
        GritWheels x = new GritWheels();
        x.open(grit, flaw, stone);
        for (int i = 0; i < skills.length; i++) {
            x.hire(skills[i]);
            x.send(i, 0);
        }
        return x;
    }

    /** Quarriers that have worked so many days at bed 0, where nothing can be cut, and come to this bed 1. */
    static GritWheels behindWork(int days, int grit, int flaw, int stone, int... skills) {
        GritWheels x = at(1, 0, 0, skills);
        passOneByOne(x, days);
        x.open(grit, flaw, stone);
        for (int i = 0; i < skills.length; i++) {
            x.send(i, 1);
        }
        return x;
    }

    /** A quarrier of skill 9 that has worked a day at a bed of each of these grits, all without stone. */
    static GritWheels dustyBy(int... grits) {
        GritWheels x = new GritWheels();
        x.hire(9);
        int[] bedOfGrit = new int[10];
        Arrays.fill(bedOfGrit, -1);
        for (int grit : grits) {
            if (bedOfGrit[grit] == -1) {
                bedOfGrit[grit] = x.open(grit, 0, 0);
            }
            x.send(0, bedOfGrit[grit]);
            x.pass(1);
        }
        return x;
    }

    static void passOneByOne(GritWheels x, int days) {
        for (int i = 0; i < days; i++) {
            x.pass(1);
        }
    }

    static void setWholeFall(GritWheels x, int water) {
        for (int day = 0; day < 9; day++) {
            x.setFall(day, water);
        }
    }

    /** Five beds of grit 1 without a flaw, six quarriers of skill 9 at none, three rafts: no place is left. */
    static GritWheels full() {
        GritWheels x = new GritWheels();
        for (int i = 0; i < 5; i++) {
            x.open(1, 0, 200);
        }
        for (int i = 0; i < 6; i++) {
            x.hire(9);
        }
        for (int i = 0; i < 3; i++) {
            x.build(400);
        }
        return x;
    }

    /** Day 12, and sixty wheels, ten by each of six quarriers, of whom the last two are at the beds 4 and 0. */
    static GritWheels withSixtyWheels() {
        GritWheels x = full();
        for (int i = 0; i < 6; i++) {
            x.send(i, i % 5);
        }
        x.pass(12);
        return x;
    }

    /** Day 62, and 59 wheels; quarrier 0 with 158 work and quarrier 1 with 368, both at bed 3 with 200 stone. */
    static GritWheels withFiftyNineWheels() {
        GritWheels x = at(1, 0, 0, 9, 9);
        x.pass(40);
        x.pass(21);
        x.open(1, 0, 200);
        x.open(1, 0, 95);
        x.open(1, 0, 200);
        x.send(0, 1);
        x.send(1, 2);
        x.pass(1);
        x.send(0, 3);
        x.send(1, 3);
        return x;
    }

    /** Wheels 0 to 3, all dressed, as day 5 comes: of sizes 5, 5, 6, 5, the second and the third with a crack. */
    static GritWheels withWheels() {
        GritWheels x = at(3, 4, 200, 9);
        x.pass(5);
        return x;
    }

    /** Day 6, wheels 0 to 4: broken, shipped with raft 0 on this day, loaded on raft 1, dressed, rough. */
    static GritWheels withEachKind() {
        GritWheels x = withWheels();
        x.setFall(5, 0);
        x.pass(1);
        x.build(400);
        x.build(400);
        x.smash(0);
        x.load(1, 0);
        x.ship(0);
        x.load(2, 1);
        return x;
    }
}
