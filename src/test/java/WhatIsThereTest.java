/** Promises 11 to 15: bed, quarrier, wheel, raft, count. */
public final class WhatIsThereTest {
    public static void main(String[] args) {
        bed();
        quarrier();
        daysUntilDusty();
        wheel();
        raft();
        count();
        Due.end();
    }

    private static void bed() {
        GritWheels x = new GritWheels();
        x.open(3, 4, 60);
        x.open(9, 0, 11);
        x.hire(9);
        x.hire(9);
        x.hire(5);
        x.send(0, 0);
        x.send(1, 0);
        x.send(2, 1);
        x.pass(4);
        // days 1 to 3, two wheels each: n 0 to 5, of the sizes 5, 5, 5, 5, 6, 6
        // (7 * n + 3 * size) % 10 is 5, 2, 9, 6, 6, 3
        Due.areFacts("bed 0", new int[] {3, 4, 28, 2, 6, 4}, what -> x.bed(0, what));
        // days 1 and 3: of the sizes 3 and 4
        Due.areFacts("bed 1", new int[] {9, 0, 4, 1, 2, 2}, what -> x.bed(1, what));
        x.pass(5);
        // day 5: 3; day 7 is for rest; day 8: 3 of the one that is left
        Due.areFacts("bed 1 without stone", new int[] {9, 0, 0, 1, 4, 4}, what -> x.bed(1, what));
        x.send(2, -1);
        Due.is("nobody at it", 0, x.bed(1, 3));
    }

    private static void quarrier() {
        GritWheels x = new GritWheels();
        x.open(5, 0, 200);
        x.open(2, 0, 200);
        x.hire(7);
        x.hire(4);
        x.send(0, 1);
        x.pass(2);
        Due.areFacts("quarrier 0", new int[] {7, 1, 6, 4, 18}, what -> x.quarrier(0, what));
        Due.areFacts("quarrier 1", new int[] {4, -1, 0, 0, -1}, what -> x.quarrier(1, what));
        x.send(0, 0);
        Due.areFacts("quarrier 0 at 0", new int[] {7, 0, 6, 4, 9}, what -> x.quarrier(0, what));
    }

    private static void daysUntilDusty() {
        GritWheels x = new GritWheels();
        x.open(9, 0, 0);
        x.open(6, 0, 0);
        x.open(3, 0, 0);
        x.hire(1);
        x.send(0, 0);
        Due.is("60 by 10", 6, x.quarrier(0, 4));
        x.send(0, 1);
        Due.is("60 by 7", 9, x.quarrier(0, 4));
        x.send(0, 2);
        Due.is("60 by 4", 15, x.quarrier(0, 4));
        x.pass(14);
        Due.is("4 by 4", 1, x.quarrier(0, 4));
        Due.is("dust 56", 56, x.quarrier(0, 2));
        x.send(0, -1);
        Due.is("at none", -1, x.quarrier(0, 4));
        x.pass(1);
        x.send(0, 0);
        Due.is("11 by 10", 2, x.quarrier(0, 4));
        x.pass(2);
        // 49, 59, then 69 less 4
        Due.is("dust 65", 65, x.quarrier(0, 2));
        Due.is("too much now", 0, x.quarrier(0, 4));
        x.send(0, -1);
        Due.is("too much now, at none", -1, x.quarrier(0, 4));
        x.send(0, 0);
        x.pass(1);
        Due.is("dust 61", 61, x.quarrier(0, 2));
        Due.is("too much still", 0, x.quarrier(0, 4));
        x.pass(1);
        Due.is("dust 57", 57, x.quarrier(0, 2));
        Due.is("3 by 10", 1, x.quarrier(0, 4));
    }

    private static void wheel() {
        GritWheels x = new GritWheels();
        x.open(9, 0, 0);
        x.open(4, 5, 200);
        x.hire(8);
        x.send(0, 1);
        for (int day = 0; day < 9; day++) {
            x.setFall(day, 0);
        }
        x.pass(4);
        // day 1: 16, size 5, (0 + 15) % 10 = 5, sound; day 2: 14, size 5, (7 + 15) % 10 = 2, a crack;
        // day 3: 12, size 6, (14 + 18) % 10 = 2, a crack
        Due.areFacts("sound and rough", new int[] {1, 5, 50, 0, 30, -1}, what -> x.wheel(0, what));
        Due.areFacts("a crack and rough", new int[] {1, 5, 50, 0, 6, -1}, what -> x.wheel(1, what));
        Due.areFacts("of size 6", new int[] {1, 6, 72, 0, 7, -1}, what -> x.wheel(2, what));
        x.setFall(4, 4);
        x.pass(1);
        Due.areFacts("sound and dressed", new int[] {1, 5, 50, 1, 90, -1}, what -> x.wheel(0, what));
        Due.areFacts("a crack and dressed", new int[] {1, 5, 50, 1, 18, -1}, what -> x.wheel(1, what));
        Due.areFacts("rough still", new int[] {1, 6, 72, 0, 7, -1}, what -> x.wheel(2, what));
        x.build(100);
        x.build(100);
        x.load(1, 1);
        Due.areFacts("a crack and loaded", new int[] {1, 5, 50, 2, 18, 1}, what -> x.wheel(1, what));
        x.setFall(5, 2);
        x.ship(1);
        Due.areFacts("a crack and shipped", new int[] {1, 5, 50, 3, 18, -1}, what -> x.wheel(1, what));
        x.smash(0);
        Due.areFacts("broken", new int[] {1, 5, 50, 4, 0, -1}, what -> x.wheel(0, what));
    }

    private static void raft() {
        GritWheels x = new GritWheels();
        x.open(1, 0, 200);
        x.hire(5);
        x.send(0, 0);
        x.pass(6);
        // days 1, 3, 5: of the sizes 3, 4, 3
        x.build(20);
        x.build(100);
        Due.areFacts("raft 1 at first", new int[] {100, 100, 0, 0}, what -> x.raft(1, what));
        x.load(0, 1);
        x.load(1, 1);
        x.load(2, 0);
        Due.areFacts("raft 1 with two", new int[] {100, 50, 2, 0}, what -> x.raft(1, what));
        Due.areFacts("raft 0 with one", new int[] {20, 2, 1, 0}, what -> x.raft(0, what));
        x.ship(1);
        Due.areFacts("raft 1 away", new int[] {100, 100, 0, 1}, what -> x.raft(1, what));
        Due.areFacts("raft 0 as before", new int[] {20, 2, 1, 0}, what -> x.raft(0, what));
        x.pass(3);
        Due.is("away still", 1, x.raft(1, 3));
        x.pass(1);
        Due.areFacts("raft 1 back", new int[] {100, 100, 0, 0}, what -> x.raft(1, what));
    }

    private static void count() {
        GritWheels x = new GritWheels();
        x.open(2, 0, 200);
        x.hire(9);
        x.hire(8);
        x.send(0, 0);
        x.send(1, 0);
        x.setFall(0, 0);
        x.setFall(1, 2);
        x.setFall(2, 3);
        x.setFall(3, 9);
        Due.areFacts("day 0", new int[] {0, 0, 0, 0, 0, 0, 0, 0, 0, 0}, what -> x.count(what));
        x.pass(1);
        Due.areFacts("day 1", new int[] {1, 2, 0, 0, 0, 0, 0, 0, 0, 6}, what -> x.count(what));
        x.pass(1);
        Due.areFacts("day 2", new int[] {2, 3, 1, 2, 2, 0, 0, 0, 0, 12}, what -> x.count(what));
        x.pass(1);
        Due.areFacts("day 3", new int[] {3, 9, 1, 4, 3, 1, 0, 0, 0, 18}, what -> x.count(what));
        x.pass(1);
        Due.areFacts("day 4", new int[] {4, 5, 1, 6, 1, 5, 0, 0, 0, 24}, what -> x.count(what));
        x.build(400);
        x.load(0, 0);
        x.load(1, 0);
        x.smash(2);
        Due.areFacts("loaded", new int[] {4, 5, 1, 6, 1, 2, 2, 0, 0, 24}, what -> x.count(what));
        x.ship(0);
        // two of size 5, grit 2, sound and dressed: 5 * 8 * 3 each
        Due.areFacts("shipped", new int[] {4, 5, 1, 6, 1, 2, 0, 2, 240, 24}, what -> x.count(what));
        x.pass(5);
        Due.is("the first water again, behind 9 days", 0, x.count(1));
        Due.is("no mill", 0, x.count(2));
    }
}
