/** Promises 16 to 20: pass, foresee, advise, share, digest. */
public final class DaysTest {
    public static void main(String[] args) {
        passWork();
        passDust();
        passStone();
        passManyWheels();
        passMill();
        foresee();
        foreseeOfAllKinds();
        foreseeChangesNothing();
        advise();
        adviseOfTheDays();
        adviseOfTheState();
        adviseOfTheNextCracks();
        adviseOfTheRoughOnes();
        share();
        digest();
        Due.end();
    }

    private static void passWork() {
        GritWheels x = Made.at(1, 0, 200, 7);
        Due.is("7 work", 0, x.pass(1));
        Due.is("14 work", 1, x.pass(1));
        Due.is("4 left", 4, x.quarrier(0, 3));
        Due.is("day 1, size 1 + 3", 4, x.wheel(0, 1));
        Due.is("stone", 196, x.bed(0, 2));
        Due.is("11, 18, 15", 2, x.pass(3));
        Due.is("day 2, size 4", 4, x.wheel(1, 1));
        Due.is("day 4, size 4", 4, x.wheel(2, 1));
        Due.is("5 left", 5, x.quarrier(0, 3));
        Due.is("12, 9, 16, 13", 3, x.pass(4));
        Due.is("the day", 9, x.count(0));
        GritWheels y = Made.at(1, 0, 200, 5, 1);
        y.pass(10);
        Due.is("day 9, size 1 + 2 + 1", 4, y.wheel(4, 1));
        Due.is("day 9, size 1 + 0 + 1, behind the first quarrier", 2, y.wheel(5, 1));
        Due.is("wheels", 6, y.count(3));
    }

    private static void passDust() {
        GritWheels x = Made.at(8, 0, 0, 3);
        x.hire(9);
        x.pass(6);
        Due.is("6 by 9", 54, x.quarrier(0, 2));
        Due.is("6 by 3", 18, x.quarrier(0, 3));
        x.pass(1);
        Due.is("63 less 4 on the same day", 59, x.quarrier(0, 2));
        Due.is("and worked", 21, x.quarrier(0, 3));
        x.pass(1);
        Due.is("68 less 4", 64, x.quarrier(0, 2));
        Due.is("worked with 59", 24, x.quarrier(0, 3));
        x.pass(1);
        Due.is("64 less 4", 60, x.quarrier(0, 2));
        x.pass(1);
        Due.is("60 less 4", 56, x.quarrier(0, 2));
        Due.is("did not work with 64 and 60", 24, x.quarrier(0, 3));
        x.send(0, -1);
        x.pass(7);
        Due.is("56 less 7 by 7", 7, x.quarrier(0, 2));
        x.send(0, 0);
        x.pass(1);
        x.send(0, -1);
        x.pass(2);
        Due.is("16 less 14", 2, x.quarrier(0, 2));
        x.pass(1);
        Due.is("not below 0", 0, x.quarrier(0, 2));
        Due.is("the one at none", 0, x.quarrier(1, 2));
        Due.is("and its work", 0, x.quarrier(1, 3));
    }

    private static void passStone() {
        GritWheels x = Made.at(1, 0, 6, 9, 9);
        Due.is("two of size 5 from 6", 2, x.pass(2));
        Due.is("stone is not below 0", 0, x.bed(0, 2));
        Due.is("size of the second", 5, x.wheel(1, 1));
        Due.is("none left", 0, x.pass(1));
        Due.is("work is kept", 17, x.quarrier(0, 3));
        x.open(1, 0, 200);
        x.send(0, 1);
        Due.is("26 work", 2, x.pass(1));
        Due.is("6 left", 6, x.quarrier(0, 3));
        Due.is("of bed 1", 1, x.wheel(2, 0));
        Due.is("day 3, size 6", 6, x.wheel(2, 1));
        Due.is("stone of bed 1", 188, x.bed(1, 2));
        Due.is("the other waits", 26, x.quarrier(1, 3));
    }

    private static void passManyWheels() {
        GritWheels x = new GritWheels();
        for (int i = 0; i < 5; i++) {
            x.open(1, 0, 200);
        }
        for (int i = 0; i < 6; i++) {
            x.hire(1);
            x.send(i, i % 5);
        }
        Due.is("a wheel of each for 10 days", 24, x.pass(40));
        Due.is("two days of 60 dust", 18, x.pass(35));
        Due.is("wheels", 42, x.count(3));
        x.pass(40);
        Due.is("no more than 60", 60, x.count(3));
        Due.is("none", 0, x.pass(40));
        int work = x.quarrier(0, 3);
        x.smash(0);
        Due.is("none for a broken one", 0, x.pass(3));
        Due.is("wheels still", 60, x.count(3));
        Due.is("work goes on, by the dust", 1, x.quarrier(0, 3) > work ? 1 : 0);
        Due.is("stone is left", 1, x.bed(4, 2) > 0 ? 1 : 0);
    }

    private static void passMill() {
        GritWheels x = Made.at(1, 0, 200, 9, 9, 9, 9, 9);
        x.setFall(0, 0);
        x.setFall(1, 2);
        x.setFall(2, 3);
        x.setFall(3, 9);
        x.pass(2);
        Due.is("rough on day 2", 5, x.count(4));
        x.pass(1);
        Due.is("one is dressed by 3", 1, x.count(5));
        Due.is("the first", 1, x.wheel(0, 3));
        Due.is("not the second", 0, x.wheel(1, 3));
        x.smash(1);
        x.pass(1);
        Due.is("four are dressed by 9", 5, x.count(5));
        Due.is("not the broken one", 4, x.wheel(1, 3));
        Due.is("the sixth", 1, x.wheel(5, 3));
        Due.is("not the seventh", 0, x.wheel(6, 3));
        GritWheels y = Made.at(1, 0, 200, 9);
        y.setFall(1, 3);
        y.pass(2);
        Due.is("dressed on the day it is cut", 1, y.wheel(0, 3));
    }

    private static void foresee() {
        int[] whats = {3, 4, 5, 9};
        GritWheels x = Made.at(4, 5, 120, 9, 3, 6);
        x.send(2, -1);
        x.setFall(2, 0);
        x.setFall(3, 1);
        x.pass(1);
        for (int days = 1; days <= 40; days++) {
            GritWheels y = Made.at(4, 5, 120, 9, 3, 6);
            y.send(2, -1);
            y.setFall(2, 0);
            y.setFall(3, 1);
            y.pass(1);
            y.pass(days);
            for (int what : whats) {
                Due.is("foresee(" + days + ", " + what + ")", y.count(what), x.foresee(days, what));
            }
        }
        Due.is("none yet", 0, x.count(3));
        Due.is("behind 1 day: 18 and 6 work", 1, x.foresee(1, 3));
        Due.is("behind 3 days: 36 and 12 work", 4, x.foresee(3, 3));
        Due.is("rough ones, with no mill on the days 2 and 3", 3, x.foresee(3, 4));
        Due.is("dressed ones", 1, x.foresee(3, 5));
        Due.is("dust, 4 by 5 twice", 40, x.foresee(3, 9));
    }

    /** Rough, dressed, loaded, shipped and broken wheels, on day 9, with a mill that often stands still. */
    private static GritWheels withAllKinds() {
        GritWheels x = Made.at(2, 4, 190, 9, 8, 7);
        x.setFall(0, 0);
        x.setFall(1, 7);
        for (int day = 3; day < 9; day++) {
            x.setFall(day, day % 4);
        }
        x.pass(9);
        x.build(400);
        x.setFall(0, 9);
        x.load(0, 0);
        x.ship(0);
        x.build(400);
        x.load(1, 1);
        x.smash(2);
        x.smash(14);
        return x;
    }

    private static void foreseeOfAllKinds() {
        GritWheels x = withAllKinds();
        Due.is("rough ones", 1, x.count(4) > 2 ? 1 : 0);
        Due.is("loaded ones", 1, x.count(6));
        Due.is("shipped ones", 1, x.count(7));
        for (int days = 1; days <= 40; days++) {
            GritWheels y = withAllKinds();
            y.pass(days);
            for (int what : new int[] {3, 4, 5, 9}) {
                Due.is("of all kinds, foresee(" + days + ", " + what + ")", y.count(what), x.foresee(days, what));
            }
        }
    }

    private static void foreseeChangesNothing() {
        GritWheels x = Made.at(2, 3, 150, 9, 8);
        x.pass(7);
        x.build(300);
        x.load(0, 0);
        x.load(1, 0);
        x.ship(0);
        long before = x.digest();
        x.foresee(40, 3);
        x.foresee(7, 9);
        x.foresee(1, 4);
        Due.is("digest() behind foresee", before, x.digest());
        Due.is("away", 1, x.raft(0, 3));
        Due.is("the same again", x.foresee(5, 5), x.foresee(5, 5));
    }

    private static void advise() {
        GritWheels x = new GritWheels();
        x.hire(9);
        Due.is("no beds", -1, x.advise(0, 1));
        x.open(9, 0, 200);
        Due.is("the only one", 0, x.advise(0, 1));
        x.open(5, 0, 200);
        x.open(5, 0, 200);
        x.open(5, 9, 200);
        Due.is("nothing behind 1 day: the smallest number", 0, x.advise(0, 1));
        Due.is("of the equal ones the smaller", 1, x.advise(0, 2));
        x.open(1, 0, 0);
        Due.is("the finest has no stone", 1, x.advise(0, 2));
        long before = x.digest();
        x.advise(0, 20);
        Due.is("digest() behind advise", before, x.digest());
        Due.is("it is at none", -1, x.quarrier(0, 1));
    }

    private static void adviseOfTheDays() {
        GritWheels x = new GritWheels();
        x.open(4, 0, 5);
        x.open(5, 0, 200);
        x.hire(9);
        // one of 4 (size 5: 30 by 3) beats one of 5 (25 by 3), but two of 5 beat that one
        Due.is("for 2 days", 0, x.advise(0, 2));
        Due.is("for 3 days", 1, x.advise(0, 3));
        Due.is("for 20 days", 1, x.advise(0, 20));
        x.send(0, 0);
        x.pass(20);
        Due.is("all stone is gone, and both give none: dust", 1, x.advise(0, 20));
    }

    private static void adviseOfTheState() {
        GritWheels x = new GritWheels();
        x.open(3, 0, 5);
        x.open(5, 0, 200);
        x.hire(9);
        x.hire(9);
        Due.is("alone", 0, x.advise(1, 2));
        x.send(0, 0);
        Due.is("behind another, who takes the stone", 1, x.advise(1, 2));
        x.send(0, -1);
        x.send(1, 0);
        Due.is("where it is counts for nothing", 0, x.advise(1, 2));
        // cracks: flaw 9 leaves one wheel of ten sound
        GritWheels y = new GritWheels();
        y.open(1, 9, 200);
        y.open(7, 0, 200);
        y.hire(9);
        Due.is("cracks are worth a fifth", 1, y.advise(0, 10));
        // dressing counts: three times the worth
        GritWheels z = new GritWheels();
        z.open(5, 0, 200);
        z.open(4, 9, 200);
        z.hire(9);
        Due.is("sound ones of more grit", 0, z.advise(0, 5));
    }

    private static void adviseOfTheNextCracks() {
        GritWheels x = new GritWheels();
        x.open(3, 4, 200);
        x.open(5, 0, 200);
        x.hire(9);
        x.send(0, 0);
        x.pass(2);
        Due.is("n 1 has a crack: 21 against 75", 1, x.advise(0, 1));
        GritWheels y = new GritWheels();
        y.open(3, 4, 200);
        y.open(5, 0, 200);
        y.hire(9);
        Due.is("n 0 is sound: 105 against 75", 0, y.advise(0, 2));
    }

    private static void adviseOfTheRoughOnes() {
        GritWheels x = new GritWheels();
        x.open(1, 0, 5);
        x.open(5, 0, 200);
        x.hire(9);
        x.hire(9);
        for (int day = 0; day < 9; day++) {
            x.setFall(day, 0);
        }
        // bed 0 gives one of 45, bed 1 gives 25, 25 and 30, from day 1 on
        Due.is("for 2 days: 45 against 25", 0, x.advise(0, 2));
        Due.is("for 4 days, without a mill: 45 against 80", 1, x.advise(0, 4));
        x.setFall(3, 3);
        Due.is("the mill dresses the first: 135 against 130", 0, x.advise(0, 4));
        x.send(1, 1);
        x.pass(2);
        x.send(1, -1);
        Due.is("one is rough", 1, x.count(4));
        // from day 3 on, 54 or 30, 25 and 25; were the first of these dressed: 162 against 140
        Due.is("the mill dresses the rough one: 54 against 80", 1, x.advise(0, 4));
    }

    private static void share() {
        GritWheels x = Made.at(3, 4, 200, 9);
        Due.isDouble("none", 0, x.share());
        x.pass(2);
        Due.isDouble("one sound", 1, x.share());
        x.pass(1);
        Due.isDouble("and a crack", 0.5, x.share());
        x.pass(1);
        Due.isDouble("and a crack again", 1.0 / 3, x.share());
        x.smash(0);
        Due.isDouble("a broken one is as sound as it was", 1.0 / 3, x.share());
    }

    private static void digest() {
        GritWheels x = new GritWheels();
        int[] first = {0, 5, 1, 0, 0, 0, 0, 0, 0, 0, 5, 5, 5, 5, 5, 5, 5, 5, 5};
        Due.is("digest() of a new object", joined(first), x.digest());
        Due.is("digest() twice", x.digest(), x.digest());
        x.open(3, 4, 60);
        x.hire(9);
        x.send(0, 0);
        x.pass(2);
        x.build(100);
        x.load(0, 0);
        int[] then = {2, 5, 1, 1, 0, 0, 1, 0, 0, 8, 5, 5, 5, 5, 5, 5, 5, 5, 5,
            3, 4, 55, 1, 1, 1, 9, 0, 8, 8, 13, 0, 5, 50, 2, 105, 0, 100, 50, 1, 0};
        Due.is("digest() with all of them", joined(then), x.digest());
    }

    private static long joined(int[] numbers) {
        long d = 1237;
        for (int x : numbers) {
            d = d * 31 + x;
        }
        return d;
    }
}
