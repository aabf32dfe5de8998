import java.math.BigInteger;

/** The edges of promises 17 to 20: foresee, advise, share, digest. */
final class EdgesOfWhatWouldBe {
    private static final String BEST = "so that the worth of all wheels, added, is the greatest behind so many days";

    private EdgesOfWhatWouldBe() {
    }

    static void look() {
        foreseeOneToForty();
        foreseeOfNothing();
        foreseeEachWhat();
        foreseeChangesNothing();
        foreseeDaysRefused();
        foreseeWhatRefused();
        adviseTheFirstAndTheLast();
        adviseNoSuchQuarrier();
        adviseDaysRefused();
        adviseWithoutBeds();
        adviseTheSmallestNumber();
        adviseTheLastBed();
        adviseForOneDay();
        adviseForTwentyDays();
        adviseByTheFallGoingRound();
        adviseForThe60thWheel();
        adviseChangesNothing();
        looksLeaveTheRaftsAlone();
        shareOfNone();
        shareOfAllAndOfNoneSound();
        digestStartsWith1237();
        digestWrapsAround();
        digestOfNumbersBelowZero();
    }

    private static void foreseeOneToForty() {
        Doc.says("Promise 17", "`days`: how many, 1 to 40");
        GritWheels x = Made.at(1, 0, 200, 9);
        Due.is("wheels behind 1 day", 0, x.foresee(1, 3));
        Due.is("wheels behind 2 days", 1, x.foresee(2, 3));
        Due.is("wheels behind 39 days, by 351 work", 35, x.foresee(39, 3));
        Due.is("wheels behind 40 days, by 360 work", 36, x.foresee(40, 3));
        Due.is("dust behind 1 day", 2, x.foresee(1, 9));
        // 60 on day 29, which is 56 on the same day; then 58, and 60 and 56 in turns
        Due.is("dust behind 39 days", 58, x.foresee(39, 9));
        Due.is("dust behind 40 days", 56, x.foresee(40, 9));
    }

    private static void foreseeOfNothing() {
        Doc.says("Promise 17", "Returns this, behind so many days");
        GritWheels x = new GritWheels();
        for (int what : new int[] {3, 4, 5, 9}) {
            Due.is("behind 1 day, " + what, 0, x.foresee(1, what));
            Due.is("behind 40 days, " + what, 0, x.foresee(40, what));
        }
    }

    private static void foreseeEachWhat() {
        Doc.says("Promise 17", "`what`: 3, 4, 5 or 9 as count() has it");
        GritWheels x = Made.withEachKind();
        GritWheels y = Made.withEachKind();
        y.pass(1);
        Due.is("wheels", 6, y.count(3));
        for (int what : new int[] {3, 4, 5, 9}) {
            Due.is("behind 1 day, " + what, y.count(what), x.foresee(1, what));
        }
        y.pass(39);
        for (int what : new int[] {3, 4, 5, 9}) {
            Due.is("behind 40 days, " + what, y.count(what), x.foresee(40, what));
        }
    }

    private static void foreseeChangesNothing() {
        Doc.says("Promise 17", "if nothing is done (nothing is changed)");
        GritWheels x = Made.withEachKind();
        GritWheels y = Made.withEachKind();
        for (int day = 0; day < 10; day++) {
            x.foresee(40, 3);
            Due.is("digest()", y.digest(), x.digest());
            x.foresee(1, 9);
            x.pass(1);
            y.pass(1);
        }
        Due.is("digest() in the end", y.digest(), x.digest());
    }

    private static void foreseeDaysRefused() {
        Doc.says("Promise 17", "Throws `IllegalArgumentException` if days is not 1 to 40");
        GritWheels x = Made.withEachKind();
        for (int what : new int[] {3, 4, 5, 9}) {
            Due.areIllegal("foresee(.., " + what + ")", x, days -> x.foresee(days, what), -1, 0, 41);
        }
    }

    private static void foreseeWhatRefused() {
        Doc.says("Promise 17", "Throws `IndexOutOfBoundsException` if what is none of these");
        GritWheels x = Made.withEachKind();
        Due.areOutside("foresee(1, ..)", x, what -> x.foresee(1, what), -1, 0, 1, 2, 6, 7, 8, 10);
        Due.areOutside("foresee(40, ..)", x, what -> x.foresee(40, what), -1, 0, 1, 2, 6, 7, 8, 10);
    }

    private static void adviseTheFirstAndTheLast() {
        Doc.says("Promise 18", "`quarrier`: a quarrier");
        GritWheels x = Made.behindWork(10, 1, 0, 200, 1, 9, 9, 9, 9, 1);
        for (int quarrier = 0; quarrier < 6; quarrier++) {
            x.send(quarrier, -1);
        }
        Due.is("the first", 1, x.advise(0, 1));
        Due.is("the last", 1, x.advise(5, 1));
    }

    private static void adviseNoSuchQuarrier() {
        Doc.says("Promise 18", "Throws `IndexOutOfBoundsException` if there is no such quarrier");
        GritWheels x = new GritWheels();
        Due.areOutside("nobody yet: advise(.., 1)", x, quarrier -> x.advise(quarrier, 1), -1, 0);
        x.hire(1);
        Due.areOutside("one, no beds: advise(.., 20)", x, quarrier -> x.advise(quarrier, 20), -1, 1);
        GritWheels y = Made.full();
        Due.areOutside("six: advise(.., 1)", y, quarrier -> y.advise(quarrier, 1), -1, 6);
    }

    private static void adviseDaysRefused() {
        Doc.says("Promise 18", "Throws `IllegalArgumentException` if days is not 1 to 20");
        GritWheels x = new GritWheels();
        x.hire(1);
        Due.areIllegal("no beds: advise(0, ..)", x, days -> x.advise(0, days), -1, 0, 21, 40);
        GritWheels y = Made.full();
        Due.areIllegal("advise(5, ..)", y, days -> y.advise(5, days), -1, 0, 21, 40);
    }

    private static void adviseWithoutBeds() {
        Doc.says("Promise 18", "-1 if there are no beds");
        GritWheels x = new GritWheels();
        x.hire(9);
        Due.is("for 1 day", -1, x.advise(0, 1));
        Due.is("for 20 days", -1, x.advise(0, 20));
        x.open(9, 9, 0);
        Due.is("one without stone", 0, x.advise(0, 20));
    }

    private static void adviseTheSmallestNumber() {
        Doc.says("Promise 18", "of several the one with the smallest number");
        GritWheels x = Made.full();
        Due.is("of five that are the same", 0, x.advise(0, 20));
        x.send(0, 4);
        Due.is("wherever this one is", 0, x.advise(0, 20));
        GritWheels y = new GritWheels();
        y.hire(9);
        y.open(9, 0, 200);
        for (int bed = 1; bed < 5; bed++) {
            y.open(5, 0, 200);
        }
        Due.is("of four that are the same and better", 1, y.advise(0, 20));
    }

    private static void adviseTheLastBed() {
        Doc.says("Promise 18", "Returns the bed to which this one had best be sent now");
        GritWheels x = new GritWheels();
        x.hire(9);
        for (int bed = 0; bed < 5; bed++) {
            x.open(9 - bed, 0, 200);
        }
        Due.is("the best is the last", 4, x.advise(0, 2));
        GritWheels y = Made.behindWork(1, 9, 3, 200, 1);
        Due.is("none has a wheel: the first", 0, y.advise(0, 1));
        GritWheels z = Made.behindWork(9, 9, 3, 200, 1);
        Due.is("a worth of 6 beats none", 1, z.advise(0, 1));
        GritWheels crack = Made.behindWork(10, 9, 4, 200, 1);
        Due.is("a wheel that is worth 0 does not", 0, crack.advise(0, 1));
    }

    /** With 9 work, a wheel is cut on this day; with 8, on the next. */
    private static void adviseForOneDay() {
        Doc.says("Promise 18", "`days`: how many");
        Due.is("for 1 day, 9 work", 1, Made.behindWork(9, 1, 0, 200, 1).advise(0, 1));
        Due.is("for 1 day, 8 work", 0, Made.behindWork(8, 1, 0, 200, 1).advise(0, 1));
        Due.is("for 2 days, 8 work", 1, Made.behindWork(8, 1, 0, 200, 1).advise(0, 2));
    }

    /** Bed 0 gives one wheel on day 9, of 54; bed 1 one of 42 on this day, and one of 21 on day 19. */
    private static void adviseForTwentyDays() {
        Doc.says("Promise 18", BEST);
        GritWheels x = new GritWheels();
        x.hire(1);
        x.open(1, 0, 1);
        x.open(3, 0, 200);
        Due.is("for 9 days", 0, x.advise(0, 9));
        Due.is("for 10 days", 0, x.advise(0, 10));
        Due.is("for 19 days", 0, x.advise(0, 19));
        Due.is("for 20 days", 1, x.advise(0, 20));
    }

    /** From day 8 on: bed 0 gives one of 45, bed 1 gives 25, 30 and 25; a mill on day 9 dresses the first. */
    private static void adviseByTheFallGoingRound() {
        Doc.says("Promise 18", BEST);
        GritWheels x = new GritWheels();
        x.hire(9);
        x.open(1, 0, 5);
        x.open(5, 0, 200);
        Made.setWholeFall(x, 0);
        x.pass(7);
        Due.is("without a mill: 45 against 80", 1, x.advise(0, 4));
        x.setFall(0, 3);
        Due.is("with a mill on day 9: 135 against 130", 0, x.advise(0, 4));
        x.setFall(0, 0);
        x.setFall(7, 9);
        Due.is("with a mill on day 7, when there is none yet", 1, x.advise(0, 4));
    }

    private static void adviseForThe60thWheel() {
        Doc.says("Promise 18", BEST);
        GritWheels x = Made.withFiftyNineWheels();
        Due.is("the first cuts the last one", 0, x.advise(1, 20));
        Due.is("or else the second", 0, x.advise(0, 20));
        x.send(0, -1);
        Due.is("none but this one can", 3, x.advise(1, 1));
        x.pass(1);
        Due.is("none is left to cut", 0, x.advise(1, 20));
    }

    private static void adviseChangesNothing() {
        Doc.says("Promise 18", "(nothing is changed)");
        GritWheels x = Made.withEachKind();
        GritWheels y = Made.withEachKind();
        x.open(2, 2, 50);
        y.open(2, 2, 50);
        for (int day = 0; day < 10; day++) {
            x.advise(0, 20);
            Due.is("digest()", y.digest(), x.digest());
            x.advise(0, 1);
            x.pass(1);
            y.pass(1);
        }
        Due.is("digest() in the end", y.digest(), x.digest());
    }

    /** The day on which a raft is back can't be told ahead, so that digest() alone would not show it moved. */
    private static void looksLeaveTheRaftsAlone() {
        Doc.says("Terms", "(so one that goes on the day 0 is away up to the day 3, with it, "
            + "and at the quay as the day is 4)");
        Due.Call[] looks = new Due.Call[8];
        for (int look = 0; look < looks.length; look++) {
            GritWheels x = Made.withEachKind();
            looks[0] = () -> x.foresee(40, 9);
            looks[1] = () -> x.advise(0, 20);
            looks[2] = () -> x.share() > 0 ? 1 : 0;
            looks[3] = x::digest;
            looks[4] = () -> x.raft(0, 3);
            looks[5] = () -> x.count(0);
            looks[6] = () -> x.wheel(1, 3) + x.bed(0, 2) + x.quarrier(0, 2);
            looks[7] = () -> x.ring(2);
            for (int day = 0; day < 3; day++) {
                looks[look].answer();
                x.pass(1);
            }
            looks[look].answer();
            Due.is("look " + look + ", on the last day away", 1, x.raft(0, 3));
            x.pass(1);
            Due.is("look " + look + ", on the first day back", 0, x.raft(0, 3));
        }
    }

    private static void shareOfNone() {
        Doc.says("Promise 19", "0 if there are none");
        Due.isDouble("a new object", 0, new GritWheels().share());
        GritWheels x = Made.full();
        x.foresee(40, 3);
        Due.isDouble("beds and quarriers, no wheels", 0, x.share());
    }

    private static void shareOfAllAndOfNoneSound() {
        Doc.says("Promise 19", "Returns the sound wheels, divided by all");
        GritWheels x = Made.behindWork(3, 9, 9, 200, 9);
        x.pass(1);
        Due.isDouble("three with a crack", 0, x.share());
        Due.isDouble("sixty sound ones", 1, Made.withSixtyWheels().share());
        GritWheels y = Made.withEachKind();
        Due.isDouble("two of five, whatever became of them", 0.4, y.share());
    }

    private static void digestStartsWith1237() {
        Doc.says("Promise 20", "Computes a checksum.");
        Doc.says("Promise 20", "A number d starts with 1237");
        Doc.says("Promise 20", "Returns d.");
        isDigest("a new object", new GritWheels(), 0, 0, 0);
        GritWheels x = new GritWheels();
        Made.setWholeFall(x, 0);
        isDigest("nothing but noughts", x, 0, 0, 0);
    }

    private static void digestWrapsAround() {
        Doc.says("Promise 20", "d becomes d * 31 + x, which wraps around as a 64-bit integer");
        isDigest("sixty wheels", Made.withSixtyWheels(), 5, 6, 3);
        isDigest("wheels of each kind", Made.withEachKind(), 1, 1, 2);
        int above = 0;
        for (int day = 0; day < 9; day++) {
            GritWheels x = Made.behindWork(day, 1, 0, 200, 9);
            isDigest("day " + day, x, 2, 1, 0);
            above += x.digest() > 0 ? 1 : 0;
        }
        Due.holds("some are above 0 and some below", above > 0 && above < 9);
    }

    private static void digestOfNumbersBelowZero() {
        Doc.says("Promise 20", "for each quarrier what quarrier() tells, for each wheel what wheel() tells");
        GritWheels x = new GritWheels();
        x.hire(1);
        Due.areFacts("at none", new int[] {1, -1, 0, 0, -1}, what -> x.quarrier(0, what));
        isDigest("one at none", x, 0, 1, 0);
    }

    /** What is due is reckoned without bounds from all that can be told, and cut to 64 bits in the end. */
    private static void isDigest(String of, GritWheels x, int beds, int quarriers, int rafts) {
        BigInteger d = BigInteger.valueOf(1237);
        for (int what = 0; what < 10; what++) {
            d = joined(d, x.count(what));
        }
        for (int day = 0; day < 9; day++) {
            d = joined(d, waterOf(x, day));
        }
        for (int i = 0; i < beds * 6; i++) {
            d = joined(d, x.bed(i / 6, i % 6));
        }
        for (int i = 0; i < quarriers * 5; i++) {
            d = joined(d, x.quarrier(i / 5, i % 5));
        }
        for (int i = 0; i < x.count(3) * 6; i++) {
            d = joined(d, x.wheel(i / 6, i % 6));
        }
        for (int i = 0; i < rafts * 4; i++) {
            d = joined(d, x.raft(i / 4, i % 4));
        }
        Due.holds(of + ": 64 bits are too few", d.bitLength() > 64);
        Due.is("digest() of " + of, d.longValue(), x.digest());
    }

    private static BigInteger joined(BigInteger d, int x) {
        return d.multiply(BigInteger.valueOf(31)).add(BigInteger.valueOf(x));
    }

    private static int waterOf(GritWheels x, int day) {
        int water = x.setFall(day, 0);
        x.setFall(day, water);
        return water;
    }
}
