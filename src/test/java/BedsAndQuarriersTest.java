/** Promises 1 to 5: a new object, setFall, open, hire, send. */
public final class BedsAndQuarriersTest {
    public static void main(String[] args) {
        newObject();
        setFall();
        open();
        hire();
        send();
        Due.end();
    }

    private static void newObject() {
        GritWheels x = new GritWheels();
        Due.areFacts("new: count", new int[] {0, 5, 1, 0, 0, 0, 0, 0, 0, 0}, x::count);
        Due.isDouble("new: share()", 0, x.share());
        GritWheels y = new GritWheels();
        y.open(1, 1, 1);
        y.setFall(0, 9);
        Due.is("another object: count(1)", 5, x.count(1));
        Due.isOutside("another object: bed(0, 0)", x, () -> x.bed(0, 0));
    }

    private static void setFall() {
        GritWheels x = new GritWheels();
        for (int day = 0; day < 9; day++) {
            Due.is("setFall answers the first water", 5, x.setFall(day, day));
            Due.is("setFall answers the water before", day, x.setFall(day, 9 - day));
        }
        for (int day = 0; day < 19; day++) {
            Due.is("the water of day " + day, 9 - day % 9, x.count(1));
            x.pass(1);
        }
    }

    private static void open() {
        GritWheels x = new GritWheels();
        int[][] beds = {{1, 0, 0}, {9, 9, 200}, {5, 3, 77}, {2, 8, 1}, {3, 1, 199}};
        for (int i = 0; i < beds.length; i++) {
            Due.is("open " + i, i, x.open(beds[i][0], beds[i][1], beds[i][2]));
        }
        for (int i = 0; i < beds.length; i++) {
            for (int what = 0; what < 3; what++) {
                Due.is("bed(" + i + ", " + what + ")", beds[i][what], x.bed(i, what));
            }
            Due.is("quarriers at it", 0, x.bed(i, 3));
            Due.is("cut of it", 0, x.bed(i, 4));
            Due.is("sound ones of it", 0, x.bed(i, 5));
        }
    }

    private static void hire() {
        GritWheels x = new GritWheels();
        int[] skills = {1, 9, 5, 3, 8, 2};
        for (int i = 0; i < skills.length; i++) {
            Due.is("hire " + i, i, x.hire(skills[i]));
        }
        for (int i = 0; i < skills.length; i++) {
            Due.is("skill", skills[i], x.quarrier(i, 0));
            Due.is("bed", -1, x.quarrier(i, 1));
            Due.is("dust", 0, x.quarrier(i, 2));
            Due.is("work", 0, x.quarrier(i, 3));
            Due.is("days", -1, x.quarrier(i, 4));
        }
    }

    private static void send() {
        GritWheels x = new GritWheels();
        x.hire(4);
        x.hire(4);
        Due.is("none to none", -1, x.send(0, -1));
        x.open(1, 0, 100);
        x.open(2, 0, 100);
        Due.is("none to 0", -1, x.send(0, 0));
        Due.is("0 to 1", 0, x.send(0, 1));
        Due.is("1 to 1", 1, x.send(0, 1));
        Due.is("the other, none to 1", -1, x.send(1, 1));
        Due.is("quarriers at 1", 2, x.bed(1, 3));
        Due.is("quarriers at 0", 0, x.bed(0, 3));
        x.pass(1);
        Due.is("1 to none", 1, x.send(0, -1));
        Due.is("its bed", -1, x.quarrier(0, 1));
        Due.is("work is kept", 4, x.quarrier(0, 3));
        Due.is("dust is kept", 3, x.quarrier(0, 2));
        Due.is("quarriers at 1 still", 1, x.bed(1, 3));
    }
}
