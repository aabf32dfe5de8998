import java.util.Arrays;

/** A quarry of grindstones beside a waterfall: beds, quarriers, wheels, a mill and rafts. */
public final class GritWheels {
    private static final int NONE = -1;

    private static final int MOST_BEDS = 5;
    private static final int MOST_QUARRIERS = 6;
    private static final int MOST_WHEELS = 60;
    private static final int MOST_RAFTS = 3;

    private static final int FALL_DAYS = 9;
    private static final int FIRST_WATER = 5;
    private static final int MOST_WATER = 9;
    private static final int MILL_WATER = 3;
    private static final int RAFT_WATER = 2;

    private static final int MOST_GRIT = 9;
    private static final int MOST_FLAW = 9;
    private static final int MOST_STONE = 200;
    private static final int MOST_SKILL = 9;
    private static final int WORK_OF_A_WHEEL = 10;
    private static final int TIRING_DUST = 60;
    private static final int MOST_DUST = 100;
    private static final int DUST_LOST_AT_NONE = 7;
    private static final int DUST_LOST_AT_BED = 4;

    private static final int ROUGH = 0;
    private static final int DRESSED = 1;
    private static final int LOADED = 2;
    private static final int SHIPPED = 3;
    private static final int BROKEN = 4;

    private static final int LEAST_CARRIED = 20;
    private static final int MOST_CARRIED = 400;
    private static final int DAYS_AWAY = 4;

    private static final int MOST_DAYS = 40;
    private static final int MOST_ADVISED_DAYS = 20;

    private static final int BED_FACTS = 6;
    private static final int QUARRIER_FACTS = 5;
    private static final int WHEEL_FACTS = 6;
    private static final int RAFT_FACTS = 4;
    private static final int COUNTS = 10;
    private static final int COUNT_WHEELS = 3;
    private static final int COUNT_ROUGH = 4;
    private static final int COUNT_DRESSED = 5;
    private static final int COUNT_COINS = 8;
    private static final int COUNT_DUST = 9;

    private static final long DIGEST_START = 1237;
    private static final long DIGEST_FACTOR = 31;

    private final Quarry now;
    /** Made once and filled anew for each look ahead, so that no call makes objects. */
    private final Quarry trial;
    private final Rafts rafts;
    private int coins;

    public GritWheels() {
        now = new Quarry();
        trial = new Quarry();
        rafts = new Rafts();
    }

    // ---- fall, beds, quarriers

    public int setFall(int day, int water) throws IndexOutOfBoundsException, IllegalArgumentException {
        if (!isWithin(day, 0, FALL_DAYS - 1)) {
            throw new IndexOutOfBoundsException("the day is not 0 to 8");
        }
        if (!isWithin(water, 0, MOST_WATER)) {
            throw new IllegalArgumentException("the water is not 0 to 9");
        }
        int before = now.fall[day];
        now.fall[day] = water;
        return before;
    }

    public int open(int grit, int flaw, int stone) throws IllegalArgumentException, IllegalStateException {
        if (!isWithin(grit, 1, MOST_GRIT) || !isWithin(flaw, 0, MOST_FLAW) || !isWithin(stone, 0, MOST_STONE)) {
            throw new IllegalArgumentException("grit is not 1 to 9, flaw not 0 to 9, or stone not 0 to 200");
        }
        if (now.beds.number >= MOST_BEDS) {
            throw new IllegalStateException("there are 5 beds");
        }
        return now.beds.add(grit, flaw, stone);
    }

    public int hire(int skill) throws IllegalArgumentException, IllegalStateException {
        if (!isWithin(skill, 1, MOST_SKILL)) {
            throw new IllegalArgumentException("skill is not 1 to 9");
        }
        if (now.crew.number >= MOST_QUARRIERS) {
            throw new IllegalStateException("there are 6 quarriers");
        }
        return now.crew.add(skill);
    }

    public int send(int quarrier, int bed) throws IndexOutOfBoundsException {
        if (!now.crew.has(quarrier)) {
            throw new IndexOutOfBoundsException("no such quarrier");
        }
        if (bed != NONE && !now.beds.has(bed)) {
            throw new IndexOutOfBoundsException("neither -1 nor a bed");
        }
        int before = now.crew.place[quarrier];
        now.crew.place[quarrier] = bed;
        return before;
    }

    // ---- wheels and rafts

    public int ring(int wheel) throws IndexOutOfBoundsException, IllegalStateException {
        if (!now.wheels.has(wheel)) {
            throw new IndexOutOfBoundsException("no such wheel");
        }
        if (now.wheels.state[wheel] >= SHIPPED) {
            throw new IllegalStateException("the wheel is shipped or broken");
        }
        return now.wheels.tone(wheel);
    }

    public int smash(int wheel) throws IndexOutOfBoundsException, IllegalStateException {
        if (!now.wheels.has(wheel)) {
            throw new IndexOutOfBoundsException("no such wheel");
        }
        if (now.wheels.state[wheel] >= LOADED) {
            throw new IllegalStateException("the wheel is loaded, shipped or broken");
        }
        now.wheels.state[wheel] = BROKEN;
        return now.beds.giveBack(now.wheels.source[wheel], now.wheels.size[wheel] / 2);
    }

    public int build(int carries) throws IllegalArgumentException, IllegalStateException {
        if (!isWithin(carries, LEAST_CARRIED, MOST_CARRIED)) {
            throw new IllegalArgumentException("a raft carries 20 to 400");
        }
        if (rafts.number >= MOST_RAFTS) {
            throw new IllegalStateException("there are 3 rafts");
        }
        return rafts.add(carries);
    }

    public int load(int wheel, int raft) throws IndexOutOfBoundsException, IllegalStateException {
        if (!now.wheels.has(wheel) || !rafts.has(raft)) {
            throw new IndexOutOfBoundsException("no such wheel or raft");
        }
        if (now.wheels.state[wheel] != DRESSED) {
            throw new IllegalStateException("the wheel is not dressed");
        }
        if (rafts.isAway(raft, now.day)) {
            throw new IllegalStateException("the raft is away");
        }
        if (now.wheels.weight(wheel) > stillCarried(raft)) {
            throw new IllegalStateException("the wheel is too heavy");
        }
        now.wheels.putOn(wheel, raft);
        return stillCarried(raft);
    }

    public int ship(int raft) throws IndexOutOfBoundsException, IllegalStateException {
        if (!rafts.has(raft)) {
            throw new IndexOutOfBoundsException("no such raft");
        }
        if (rafts.isAway(raft, now.day) || now.wheels.numberOn(raft) == 0 || now.water() < RAFT_WATER) {
            throw new IllegalStateException("the raft is away or empty, or there is too little water");
        }
        int paid = now.wheels.goWith(raft);
        coins += paid;
        rafts.leave(raft, now.day);
        return paid;
    }

    // ---- what is there

    public int bed(int bed, int what) throws IndexOutOfBoundsException {
        if (!now.beds.has(bed) || !isWithin(what, 0, BED_FACTS - 1)) {
            throw new IndexOutOfBoundsException("no such bed, or what is not 0 to 5");
        }
        return now.bedFact(bed, what);
    }

    public int quarrier(int quarrier, int what) throws IndexOutOfBoundsException {
        if (!now.crew.has(quarrier) || !isWithin(what, 0, QUARRIER_FACTS - 1)) {
            throw new IndexOutOfBoundsException("no such quarrier, or what is not 0 to 4");
        }
        return now.quarrierFact(quarrier, what);
    }

    public int wheel(int wheel, int what) throws IndexOutOfBoundsException {
        if (!now.wheels.has(wheel) || !isWithin(what, 0, WHEEL_FACTS - 1)) {
            throw new IndexOutOfBoundsException("no such wheel, or what is not 0 to 5");
        }
        return now.wheels.fact(wheel, what);
    }

    public int raft(int raft, int what) throws IndexOutOfBoundsException {
        if (!rafts.has(raft) || !isWithin(what, 0, RAFT_FACTS - 1)) {
            throw new IndexOutOfBoundsException("no such raft, or what is not 0 to 3");
        }
        return raftFact(raft, what);
    }

    public int count(int what) throws IndexOutOfBoundsException {
        if (!isWithin(what, 0, COUNTS - 1)) {
            throw new IndexOutOfBoundsException("what is not 0 to 9");
        }
        return countOf(what);
    }

    // ---- days and what would be

    public int pass(int days) throws IllegalArgumentException {
        if (!isWithin(days, 1, MOST_DAYS)) {
            throw new IllegalArgumentException("days are not 1 to 40");
        }
        int before = now.wheels.number;
        now.goOn(days);
        return now.wheels.number - before;
    }

    public int foresee(int days, int what) throws IllegalArgumentException, IndexOutOfBoundsException {
        if (!isWithin(days, 1, MOST_DAYS)) {
            throw new IllegalArgumentException("days are not 1 to 40");
        }
        if (!isWithin(what, COUNT_WHEELS, COUNT_DRESSED) && what != COUNT_DUST) {
            throw new IndexOutOfBoundsException("what is not 3, 4, 5 or 9");
        }
        trial.copyFrom(now);
        trial.goOn(days);
        return trial.countOf(what);
    }

    public int advise(int quarrier, int days) throws IndexOutOfBoundsException, IllegalArgumentException {
        if (!now.crew.has(quarrier)) {
            throw new IndexOutOfBoundsException("no such quarrier");
        }
        if (!isWithin(days, 1, MOST_ADVISED_DAYS)) {
            throw new IllegalArgumentException("days are not 1 to 20");
        }
        int best = NONE;
        int bestWorth = 0;
        for (int bed = 0; bed < now.beds.number; bed++) {
            int worth = worthIfSent(quarrier, bed, days);
            if (best == NONE || worth > bestWorth) {
                best = bed;
                bestWorth = worth;
            }
        }
        return best;
    }

    public double share() {
        int all = now.wheels.number;
        return all == 0 ? 0 : (double) now.wheels.numberSound() / all;
    }

    public long digest() {
        long d = DIGEST_START;
        for (int what = 0; what < COUNTS; what++) {
            d = joined(d, countOf(what));
        }
        for (int day = 0; day < FALL_DAYS; day++) {
            d = joined(d, now.fall[day]);
        }
        for (int bed = 0; bed < now.beds.number; bed++) {
            for (int what = 0; what < BED_FACTS; what++) {
                d = joined(d, now.bedFact(bed, what));
            }
        }
        for (int quarrier = 0; quarrier < now.crew.number; quarrier++) {
            for (int what = 0; what < QUARRIER_FACTS; what++) {
                d = joined(d, now.quarrierFact(quarrier, what));
            }
        }
        for (int wheel = 0; wheel < now.wheels.number; wheel++) {
            for (int what = 0; what < WHEEL_FACTS; what++) {
                d = joined(d, now.wheels.fact(wheel, what));
            }
        }
        for (int raft = 0; raft < rafts.number; raft++) {
            for (int what = 0; what < RAFT_FACTS; what++) {
                d = joined(d, raftFact(raft, what));
            }
        }
        return d;
    }

    private static boolean isWithin(int x, int least, int most) {
        return x >= least && x <= most;
    }

    private static long joined(long d, int x) {
        return d * DIGEST_FACTOR + x;
    }

    private int countOf(int what) {
        return what == COUNT_COINS ? coins : now.countOf(what);
    }

    private int stillCarried(int raft) {
        return rafts.carries[raft] - now.wheels.weightOn(raft);
    }

    private int raftFact(int raft, int what) {
        switch (what) {
            case 0: return rafts.carries[raft];
            case 1: return stillCarried(raft);
            case 2: return now.wheels.numberOn(raft);
            default: return rafts.isAway(raft, now.day) ? 1 : 0;
        }
    }

    private int worthIfSent(int quarrier, int bed, int days) {
        trial.copyFrom(now);
        trial.crew.place[quarrier] = bed;
        trial.goOn(days);
        return trial.wheels.worthInAll();
    }

    /** All that days change, so that a look ahead needs a copy of this alone. */
    private static final class Quarry {
        final int[] fall;
        final Beds beds;
        final Crew crew;
        final Wheels wheels;
        int day;

        Quarry() {
            fall = new int[FALL_DAYS];
            Arrays.fill(fall, FIRST_WATER);
            beds = new Beds();
            crew = new Crew();
            wheels = new Wheels();
        }

        void copyFrom(Quarry other) {
            day = other.day;
            for (int i = 0; i < FALL_DAYS; i++) {
                fall[i] = other.fall[i];
            }
            beds.copyFrom(other.beds);
            crew.copyFrom(other.crew);
            wheels.copyFrom(other.wheels);
        }

        int water() {
            // floorMod, since a day that wrapped around must not become an index below 0
            return fall[Math.floorMod(day, FALL_DAYS)];
        }

        boolean millRuns() {
            return water() >= MILL_WATER;
        }

        void goOn(int days) {
            for (int i = 0; i < days; i++) {
                goOnOneDay();
            }
        }

        void goOnOneDay() {
            for (int quarrier = 0; quarrier < crew.number; quarrier++) {
                work(quarrier);
            }
            crew.loseDust();
            if (millRuns()) {
                wheels.dress(water() / 2);
            }
            // Rafts need nothing here: they know the day from which they are back.
            day++;
        }

        void work(int quarrier) {
            int bed = crew.place[quarrier];
            if (!beds.has(bed) || crew.isTired(quarrier)) {
                return;
            }
            crew.toil(quarrier, beds.dustOfADay(bed));
            int size = sizeToday(crew.skill[quarrier]);
            for (int free = MOST_WHEELS - wheels.number; free > 0; free--) {
                if (crew.work[quarrier] < WORK_OF_A_WHEEL || beds.stone[bed] <= 0) {
                    return;
                }
                crew.work[quarrier] -= WORK_OF_A_WHEEL;
                cutWheel(bed, size);
            }
        }

        int sizeToday(int skill) {
            return 1 + skill / 2 + (day % 3 == 0 ? 1 : 0);
        }

        void cutWheel(int bed, int size) {
            boolean cracked = (7 * beds.cut[bed] + 3 * size) % 10 < beds.flaw[bed];
            wheels.add(bed, beds.grit[bed], size, cracked);
            beds.cut[bed]++;
            beds.stone[bed] = Math.max(0, beds.stone[bed] - size);
        }

        int daysUntilTired(int quarrier) {
            int bed = crew.place[quarrier];
            if (!beds.has(bed)) {
                return NONE;
            }
            int lacking = TIRING_DUST - crew.dust[quarrier];
            int daily = beds.dustOfADay(bed);
            if (lacking <= 0 || daily <= 0) {
                return 0;
            }
            return (lacking + daily - 1) / daily;
        }

        int bedFact(int bed, int what) {
            switch (what) {
                case 0: return beds.grit[bed];
                case 1: return beds.flaw[bed];
                case 2: return beds.stone[bed];
                case 3: return crew.numberAt(bed);
                case 4: return beds.cut[bed];
                default: return wheels.numberSoundOf(bed);
            }
        }

        int quarrierFact(int quarrier, int what) {
            switch (what) {
                case 0: return crew.skill[quarrier];
                case 1: return crew.place[quarrier];
                case 2: return crew.dust[quarrier];
                case 3: return crew.work[quarrier];
                default: return daysUntilTired(quarrier);
            }
        }

        /** What is told of all but the coins, which days do not change. */
        int countOf(int what) {
            switch (what) {
                case 0: return day;
                case 1: return water();
                case 2: return millRuns() ? 1 : 0;
                case COUNT_WHEELS: return wheels.number;
                case COUNT_ROUGH: return wheels.numberThatAre(ROUGH);
                case COUNT_DRESSED: return wheels.numberThatAre(DRESSED);
                case 6: return wheels.numberThatAre(LOADED);
                case 7: return wheels.numberThatAre(SHIPPED);
                default: return crew.dustInAll();
            }
        }
    }

    private static final class Beds {
        final int[] grit;
        final int[] flaw;
        final int[] stone;
        final int[] cut;
        int number;

        Beds() {
            grit = new int[MOST_BEDS];
            flaw = new int[MOST_BEDS];
            stone = new int[MOST_BEDS];
            cut = new int[MOST_BEDS];
        }

        void copyFrom(Beds other) {
            number = other.number;
            for (int i = 0; i < number; i++) {
                grit[i] = other.grit[i];
                flaw[i] = other.flaw[i];
                stone[i] = other.stone[i];
                cut[i] = other.cut[i];
            }
        }

        boolean has(int bed) {
            return bed >= 0 && bed < number;
        }

        int add(int newGrit, int newFlaw, int newStone) {
            if (number >= MOST_BEDS) {
                return NONE;
            }
            grit[number] = newGrit;
            flaw[number] = newFlaw;
            stone[number] = newStone;
            return number++;
        }

        int dustOfADay(int bed) {
            return grit[bed] + 1;
        }

        int giveBack(int bed, int more) {
            if (!has(bed)) {
                return 0;
            }
            stone[bed] = Math.min(MOST_STONE, stone[bed] + more);
            return stone[bed];
        }
    }

    /** The quarriers; the place of each is a bed, or none. */
    private static final class Crew {
        final int[] skill;
        final int[] place;
        final int[] dust;
        final int[] work;
        int number;

        Crew() {
            skill = new int[MOST_QUARRIERS];
            place = new int[MOST_QUARRIERS];
            dust = new int[MOST_QUARRIERS];
            work = new int[MOST_QUARRIERS];
        }

        void copyFrom(Crew other) {
            number = other.number;
            for (int i = 0; i < number; i++) {
                skill[i] = other.skill[i];
                place[i] = other.place[i];
                dust[i] = other.dust[i];
                work[i] = other.work[i];
            }
        }

        boolean has(int quarrier) {
            return quarrier >= 0 && quarrier < number;
        }

        int add(int newSkill) {
            if (number >= MOST_QUARRIERS) {
                return NONE;
            }
            skill[number] = newSkill;
            place[number] = NONE;
            return number++;
        }

        boolean isTired(int quarrier) {
            return dust[quarrier] >= TIRING_DUST;
        }

        void toil(int quarrier, int moreDust) {
            work[quarrier] += skill[quarrier];
            dust[quarrier] = Math.min(MOST_DUST, dust[quarrier] + moreDust);
        }

        void loseDust() {
            for (int i = 0; i < number; i++) {
                if (place[i] == NONE) {
                    dust[i] = Math.max(0, dust[i] - DUST_LOST_AT_NONE);
                } else if (isTired(i)) {
                    dust[i] -= DUST_LOST_AT_BED;
                }
            }
        }

        int numberAt(int bed) {
            int found = 0;
            for (int i = 0; i < number; i++) {
                if (place[i] == bed) {
                    found++;
                }
            }
            return found;
        }

        int dustInAll() {
            int sum = 0;
            for (int i = 0; i < number; i++) {
                sum += dust[i];
            }
            return sum;
        }
    }

    /** The wheels; each keeps the grit of its bed, which never changes, beside the bed itself. */
    private static final class Wheels {
        final int[] source;
        final int[] grit;
        final int[] size;
        final boolean[] cracked;
        final int[] state;
        final int[] carrier;
        int number;

        Wheels() {
            source = new int[MOST_WHEELS];
            grit = new int[MOST_WHEELS];
            size = new int[MOST_WHEELS];
            cracked = new boolean[MOST_WHEELS];
            state = new int[MOST_WHEELS];
            carrier = new int[MOST_WHEELS];
        }

        void copyFrom(Wheels other) {
            number = other.number;
            for (int i = 0; i < number; i++) {
                source[i] = other.source[i];
                grit[i] = other.grit[i];
                size[i] = other.size[i];
                cracked[i] = other.cracked[i];
                state[i] = other.state[i];
                carrier[i] = other.carrier[i];
            }
        }

        boolean has(int wheel) {
            return wheel >= 0 && wheel < number;
        }

        void add(int bed, int gritOfBed, int newSize, boolean hasCrack) {
            if (number >= MOST_WHEELS) {
                return;
            }
            source[number] = bed;
            grit[number] = gritOfBed;
            size[number] = newSize;
            cracked[number] = hasCrack;
            // A trial leaves its wheels behind in these rows, so nothing may be taken for fresh.
            state[number] = ROUGH;
            carrier[number] = NONE;
            number++;
        }

        int tone(int wheel) {
            return 50 - 4 * size[wheel] - grit[wheel] - (cracked[wheel] ? 9 : 0);
        }

        int weight(int wheel) {
            return 2 * size[wheel] * size[wheel];
        }

        int worth(int wheel) {
            if (state[wheel] == BROKEN) {
                return 0;
            }
            int rough = size[wheel] * (10 - grit[wheel]);
            int sound = state[wheel] == ROUGH ? rough : 3 * rough;
            return cracked[wheel] ? sound / 5 : sound;
        }

        int worthInAll() {
            int sum = 0;
            for (int i = 0; i < number; i++) {
                sum += worth(i);
            }
            return sum;
        }

        void dress(int most) {
            int left = most;
            for (int i = 0; i < number && left > 0; i++) {
                if (state[i] == ROUGH) {
                    state[i] = DRESSED;
                    left--;
                }
            }
        }

        void putOn(int wheel, int raft) {
            state[wheel] = LOADED;
            carrier[wheel] = raft;
        }

        /** Ships what is on the raft and answers its worth. */
        int goWith(int raft) {
            int sum = 0;
            for (int i = 0; i < number; i++) {
                if (carrier[i] == raft) {
                    sum += worth(i);
                    state[i] = SHIPPED;
                    carrier[i] = NONE;
                }
            }
            return sum;
        }

        int numberOn(int raft) {
            int found = 0;
            for (int i = 0; i < number; i++) {
                if (carrier[i] == raft) {
                    found++;
                }
            }
            return found;
        }

        int weightOn(int raft) {
            int sum = 0;
            for (int i = 0; i < number; i++) {
                if (carrier[i] == raft) {
                    sum += weight(i);
                }
            }
            return sum;
        }

        int numberThatAre(int wanted) {
            int found = 0;
            for (int i = 0; i < number; i++) {
                if (state[i] == wanted) {
                    found++;
                }
            }
            return found;
        }

        int numberSound() {
            int found = 0;
            for (int i = 0; i < number; i++) {
                if (!cracked[i]) {
                    found++;
                }
            }
            return found;
        }

        int numberSoundOf(int bed) {
            int found = 0;
            for (int i = 0; i < number; i++) {
                if (source[i] == bed && !cracked[i]) {
                    found++;
                }
            }
            return found;
        }

        int fact(int wheel, int what) {
            switch (what) {
                case 0: return source[wheel];
                case 1: return size[wheel];
                case 2: return weight(wheel);
                case 3: return state[wheel];
                case 4: return worth(wheel);
                default: return carrier[wheel];
            }
        }
    }

    private static final class Rafts {
        final int[] carries;
        final int[] backOn;
        int number;

        Rafts() {
            carries = new int[MOST_RAFTS];
            backOn = new int[MOST_RAFTS];
        }

        boolean has(int raft) {
            return raft >= 0 && raft < number;
        }

        int add(int weight) {
            if (number >= MOST_RAFTS) {
                return NONE;
            }
            carries[number] = weight;
            return number++;
        }

        boolean isAway(int raft, int day) {
            return day < backOn[raft];
        }

        void leave(int raft, int day) {
            backOn[raft] = day + DAYS_AWAY;
        }
    }
}
