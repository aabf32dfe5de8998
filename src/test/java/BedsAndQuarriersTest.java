/** Promises 1 to 5: a new object, setFall, open, hire, send. */
public final class BedsAndQuarriersTest {
    private static final int LEAST = Integer.MIN_VALUE;
    private static final int MOST = Integer.MAX_VALUE;

    public static void main(String[] args) {
        newObject();
        setFall();
        setFallRefused();
        open();
        openRefused();
        hire();
        hireRefused();
        send();
        sendRefused();
        Due.end();
    }

    private static void newObject() {
        GritWheels x = new GritWheels();
        int[] counts = {0, 5, 1, 0, 0, 0, 0, 0, 0, 0};
        for (int what = 0; what < counts.length; what++) {
            Due.is("new: count(" + what + ")", counts[what], x.count(what));
        }
        Due.isOutside("new: bed(0, 0)", x, () -> x.bed(0, 0));
        Due.isOutside("new: quarrier(0, 0)", x, () -> x.quarrier(0, 0));
        Due.isOutside("new: wheel(0, 0)", x, () -> x.wheel(0, 0));
        Due.isOutside("new: raft(0, 0)", x, () -> x.raft(0, 0));
        Due.isDouble("new: share()", 0, x.share());
        GritWheels y = new GritWheels();
        y.open(1, 1, 1);
        y.setFall(0, 9);
        Due.is("another object: count(1)", 5, x.count(1));
        Due.isOutside("another object: bed(0, 0)", x, () -> x.bed(0, 0));
    }

    private static void setFall() {
        GritWheels x = new GritWheels();
        for (int day = 0; day < 9; day++) {
            Due.is("setFall answers the first water", 5, x.setFall(day, day));
            Due.is("setFall answers the water before", day, x.setFall(day, 9 - day));
        }
        for (int day = 0; day < 19; day++) {
            Due.is("the water of day " + day, 9 - day % 9, x.count(1));
            x.pass(1);
        }
    }

    private static void setFallRefused() {
        GritWheels x = new GritWheels();
        for (int day : new int[] {-1, 9, 10, LEAST, MOST}) {
            Due.isOutside("setFall(" + day + ", 0)", x, () -> x.setFall(day, 0));
            Due.isOutside("setFall(" + day + ", 10)", x, () -> x.setFall(day, 10));
        }
        for (int water : new int[] {-1, 10, LEAST, MOST}) {
            Due.isIllegal("setFall(0, " + water + ")", x, () -> x.setFall(0, water));
            Due.isIllegal("setFall(8, " + water + ")", x, () -> x.setFall(8, water));
        }
    }

    private static void open() {
        GritWheels x = new GritWheels();
        int[][] beds = {{1, 0, 0}, {9, 9, 200}, {5, 3, 77}, {2, 8, 1}, {3, 1, 199}};
        for (int i = 0; i < beds.length; i++) {
            Due.is("open " + i, i, x.open(beds[i][0], beds[i][1], beds[i][2]));
        }
        for (int i = 0; i < beds.length; i++) {
            for (int what = 0; what < 3; what++) {
                Due.is("bed(" + i + ", " + what + ")", beds[i][what], x.bed(i, what));
            }
            Due.is("quarriers at it", 0, x.bed(i, 3));
            Due.is("cut of it", 0, x.bed(i, 4));
            Due.is("sound ones of it", 0, x.bed(i, 5));
        }
        Due.isUntimely("a sixth bed", x, () -> x.open(1, 0, 0));
        Due.isIllegal("a sixth bed without grit", x, () -> x.open(0, 0, 0));
    }

    private static void openRefused() {
        GritWheels x = new GritWheels();
        for (int grit : new int[] {-1, 0, 10, LEAST, MOST}) {
            Due.isIllegal("open(" + grit + ", 0, 0)", x, () -> x.open(grit, 0, 0));
        }
        for (int flaw : new int[] {-1, 10, LEAST, MOST}) {
            Due.isIllegal("open(1, " + flaw + ", 0)", x, () -> x.open(1, flaw, 0));
        }
        for (int stone : new int[] {-1, 201, LEAST, MOST}) {
            Due.isIllegal("open(1, 0, " + stone + ")", x, () -> x.open(1, 0, stone));
        }
        Due.is("the first bed behind these", 0, x.open(1, 0, 0));
    }

    private static void hire() {
        GritWheels x = new GritWheels();
        int[] skills = {1, 9, 5, 3, 8, 2};
        for (int i = 0; i < skills.length; i++) {
            Due.is("hire " + i, i, x.hire(skills[i]));
        }
        for (int i = 0; i < skills.length; i++) {
            Due.is("skill", skills[i], x.quarrier(i, 0));
            Due.is("bed", -1, x.quarrier(i, 1));
            Due.is("dust", 0, x.quarrier(i, 2));
            Due.is("work", 0, x.quarrier(i, 3));
            Due.is("days", -1, x.quarrier(i, 4));
        }
        Due.isUntimely("a seventh quarrier", x, () -> x.hire(1));
        Due.isIllegal("a seventh quarrier without skill", x, () -> x.hire(0));
    }

    private static void hireRefused() {
        GritWheels x = new GritWheels();
        for (int skill : new int[] {-1, 0, 10, LEAST, MOST}) {
            Due.isIllegal("hire(" + skill + ")", x, () -> x.hire(skill));
        }
        Due.is("the first quarrier behind these", 0, x.hire(1));
    }

    private static void send() {
        GritWheels x = new GritWheels();
        x.hire(4);
        x.hire(4);
        Due.is("none to none", -1, x.send(0, -1));
        x.open(1, 0, 100);
        x.open(2, 0, 100);
        Due.is("none to 0", -1, x.send(0, 0));
        Due.is("0 to 1", 0, x.send(0, 1));
        Due.is("1 to 1", 1, x.send(0, 1));
        Due.is("the other, none to 1", -1, x.send(1, 1));
        Due.is("quarriers at 1", 2, x.bed(1, 3));
        Due.is("quarriers at 0", 0, x.bed(0, 3));
        x.pass(1);
        Due.is("1 to none", 1, x.send(0, -1));
        Due.is("its bed", -1, x.quarrier(0, 1));
        Due.is("work is kept", 4, x.quarrier(0, 3));
        Due.is("dust is kept", 3, x.quarrier(0, 2));
        Due.is("quarriers at 1 still", 1, x.bed(1, 3));
    }

    private static void sendRefused() {
        GritWheels x = new GritWheels();
        Due.isOutside("send(0, -1) of nobody", x, () -> x.send(0, -1));
        x.hire(4);
        Due.isOutside("send(0, 0) to no bed", x, () -> x.send(0, 0));
        x.open(1, 0, 100);
        x.send(0, 0);
        for (int quarrier : new int[] {-1, 1, 6, LEAST, MOST}) {
            Due.isOutside("send(" + quarrier + ", 0)", x, () -> x.send(quarrier, 0));
        }
        for (int bed : new int[] {-2, 1, 5, LEAST, MOST}) {
            Due.isOutside("send(0, " + bed + ")", x, () -> x.send(0, bed));
        }
    }
}
