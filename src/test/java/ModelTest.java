import java.util.ArrayList;
import java.util.List;
import java.util.Random;

/**
 * Long runs of calls, by chance from fixed seeds, answered by GritWheels and by a second model that is
 * written from the document in another way: objects that are copied whole, rafts that count their days.
 */
public final class ModelTest {
    private static final int RUNS = 400;
    private static final int CALLS = 512;

    private static final long OUTSIDE = Long.MIN_VALUE;
    private static final long ILLEGAL = Long.MIN_VALUE + 1;
    private static final long UNTIMELY = Long.MIN_VALUE + 2;
    private static final long OTHER = Long.MIN_VALUE + 3;

    public static void main(String[] args) {
        for (int run = 0; run < RUNS; run++) {
            play(run);
        }
        Due.end();
    }

    private static void play(int run) {
        Random chance = new Random(run);
        GritWheels x = new GritWheels();
        Model m = new Model();
        for (int call = 0; call < CALLS / 2; call++) {
            int kind = call < 12 ? chance.nextInt(4) : chance.nextInt(19);
            int a = near(chance, kind);
            int b = near(chance, kind);
            int c = chance.nextInt(12) == 0 ? 201 : chance.nextInt(201);
            String text = "run " + run + ", call " + call + ": kind " + kind + " of " + a + ", " + b + ", " + c;
            Due.is(text, m.answer(kind, a, b, c), answer(x, kind, a, b, c));
            Due.is(text + ", digest() then", m.digest(), x.digest());
        }
    }

    /** Mostly what may be asked, sometimes one that is just outside, by the kind of call. */
    private static int near(Random chance, int kind) {
        switch (kind) {
            case 5: case 6: case 12: return chance.nextInt(62) - 1;
            case 8: return chance.nextInt(20) == 0 ? chance.nextInt(62) : chance.nextInt(24) - 1;
            case 7: return chance.nextInt(3) == 0 ? 15 + chance.nextInt(10) : 385 + chance.nextInt(20);
            case 9: case 13: return chance.nextInt(5) - 1;
            case 15: return chance.nextInt(8) == 0 ? chance.nextInt(43) - 1 : 1 + chance.nextInt(3);
            case 16: return chance.nextInt(4) == 0 ? chance.nextInt(43) - 1 : 3 + chance.nextInt(8);
            case 17: return chance.nextInt(3) == 0 ? chance.nextInt(23) - 1 : chance.nextInt(6);
            default: return chance.nextInt(12) - 1;
        }
    }

    private static long answer(GritWheels x, int kind, int a, int b, int c) {
        try {
            switch (kind) {
                case 0: return x.setFall(a, b);
                case 1: return x.open(a, b, c);
                case 2: return x.hire(a);
                case 3: return x.send(a, b > 5 ? 0 : b);
                case 4: return Double.doubleToLongBits(x.share());
                case 5: return x.ring(a);
                case 6: return x.smash(a);
                case 7: return x.build(a);
                case 8: return x.load(a, c % 5 - 1);
                case 9: return x.ship(a);
                case 10: return x.bed(a, b);
                case 11: return x.quarrier(a, b);
                case 12: return x.wheel(a, c % 8 - 1);
                case 13: return x.raft(a, b);
                case 14: return x.count(a);
                case 15: return x.pass(a);
                case 16: return x.foresee(a, b);
                case 17: return x.advise(a % 7, b);
                default: return x.digest();
            }
        } catch (IndexOutOfBoundsException e) {
            return e.getClass() == IndexOutOfBoundsException.class ? OUTSIDE : OTHER;
        } catch (IllegalArgumentException e) {
            return e.getClass() == IllegalArgumentException.class ? ILLEGAL : OTHER;
        } catch (IllegalStateException e) {
            return UNTIMELY;
        } catch (RuntimeException e) {
            return OTHER;
        }
    }

    private static final class Bed {
        int grit;
        int flaw;
        int stone;
        int cut;
    }

    private static final class Quarrier {
        int skill;
        Bed at;
        int dust;
        int work;
    }

    private static final class Wheel {
        Bed of;
        int nth;
        int size;
        int how;
        Raft on;

        boolean cracked() {
            return (7 * nth + 3 * size) % 10 < of.flaw;
        }

        int weight() {
            return 2 * size * size;
        }

        int worth() {
            int factor = how == 4 ? 0 : how == 0 ? 1 : 3;
            int worth = size * (10 - of.grit) * factor;
            return cracked() ? worth / 5 : worth;
        }
    }

    private static final class Raft {
        int carries;
        boolean away;
        int went;
    }

    private static final class Model {
        int day;
        int coins;
        final int[] fall = {5, 5, 5, 5, 5, 5, 5, 5, 5};
        final List<Bed> beds = new ArrayList<>();
        final List<Quarrier> quarriers = new ArrayList<>();
        final List<Wheel> wheels = new ArrayList<>();
        final List<Raft> rafts = new ArrayList<>();

        Model copied() {
            Model m = new Model();
            m.day = day;
            m.coins = coins;
            System.arraycopy(fall, 0, m.fall, 0, 9);
            for (Bed bed : beds) {
                Bed b = new Bed();
                b.grit = bed.grit;
                b.flaw = bed.flaw;
                b.stone = bed.stone;
                b.cut = bed.cut;
                m.beds.add(b);
            }
            for (Quarrier quarrier : quarriers) {
                Quarrier q = new Quarrier();
                q.skill = quarrier.skill;
                q.at = quarrier.at == null ? null : m.beds.get(beds.indexOf(quarrier.at));
                q.dust = quarrier.dust;
                q.work = quarrier.work;
                m.quarriers.add(q);
            }
            for (Raft raft : rafts) {
                Raft r = new Raft();
                r.carries = raft.carries;
                r.away = raft.away;
                r.went = raft.went;
                m.rafts.add(r);
            }
            for (Wheel wheel : wheels) {
                Wheel w = new Wheel();
                w.of = m.beds.get(beds.indexOf(wheel.of));
                w.nth = wheel.nth;
                w.size = wheel.size;
                w.how = wheel.how;
                w.on = wheel.on == null ? null : m.rafts.get(rafts.indexOf(wheel.on));
                m.wheels.add(w);
            }
            return m;
        }

        int water() {
            return fall[day % 9];
        }

        void live() {
            for (Quarrier q : quarriers) {
                if (q.at == null || q.dust >= 60) {
                    continue;
                }
                q.work = q.work + q.skill;
                q.dust = Math.min(100, q.dust + q.at.grit + 1);
                while (q.work / 10 > 0 && q.at.stone != 0 && wheels.size() < 60) {
                    q.work = q.work - 10;
                    Wheel w = new Wheel();
                    w.of = q.at;
                    w.nth = q.at.cut++;
                    w.size = 1 + q.skill / 2;
                    if (day % 3 == 0) {
                        w.size++;
                    }
                    q.at.stone = w.size > q.at.stone ? 0 : q.at.stone - w.size;
                    wheels.add(w);
                }
            }
            for (Quarrier q : quarriers) {
                if (q.at == null) {
                    q.dust = q.dust < 7 ? 0 : q.dust - 7;
                } else if (q.dust >= 60) {
                    q.dust = q.dust - 4;
                }
            }
            int most = water() < 3 ? 0 : water() / 2;
            for (Wheel w : wheels) {
                if (w.how == 0 && most > 0) {
                    w.how = 1;
                    most--;
                }
            }
            for (Raft r : rafts) {
                if (r.away && r.went == day - 3) {
                    r.away = false;
                }
            }
            day = day + 1;
        }

        Model behind(int days) {
            Model m = copied();
            for (int i = 0; i < days; i++) {
                m.live();
            }
            return m;
        }

        long answer(int kind, int a, int b, int c) {
            switch (kind) {
                case 0: return setFall(a, b);
                case 1: return open(a, b, c);
                case 2: return hire(a);
                case 3: return send(a, b > 5 ? 0 : b);
                case 4: return Double.doubleToLongBits(share());
                case 5: return ring(a);
                case 6: return smash(a);
                case 7: return build(a);
                case 8: return load(a, c % 5 - 1);
                case 9: return ship(a);
                case 10: return bed(a, b);
                case 11: return quarrier(a, b);
                case 12: return wheel(a, c % 8 - 1);
                case 13: return raft(a, b);
                case 14: return count(a);
                case 15: return pass(a);
                case 16: return foresee(a, b);
                case 17: return advise(a % 7, b);
                default: return digest();
            }
        }

        static boolean in(List<?> list, int i) {
            return i >= 0 && i < list.size();
        }

        long setFall(int d, int water) {
            if (d < 0 || d > 8) {
                return OUTSIDE;
            }
            if (water < 0 || water > 9) {
                return ILLEGAL;
            }
            int before = fall[d];
            fall[d] = water;
            return before;
        }

        long open(int grit, int flaw, int stone) {
            if (grit < 1 || grit > 9 || flaw < 0 || flaw > 9 || stone < 0 || stone > 200) {
                return ILLEGAL;
            }
            if (beds.size() == 5) {
                return UNTIMELY;
            }
            Bed b = new Bed();
            b.grit = grit;
            b.flaw = flaw;
            b.stone = stone;
            beds.add(b);
            return beds.indexOf(b);
        }

        long hire(int skill) {
            if (skill < 1 || skill > 9) {
                return ILLEGAL;
            }
            if (quarriers.size() == 6) {
                return UNTIMELY;
            }
            Quarrier q = new Quarrier();
            q.skill = skill;
            quarriers.add(q);
            return quarriers.indexOf(q);
        }

        long send(int quarrier, int bed) {
            if (!in(quarriers, quarrier) || bed != -1 && !in(beds, bed)) {
                return OUTSIDE;
            }
            long before = beds.indexOf(quarriers.get(quarrier).at);
            quarriers.get(quarrier).at = bed == -1 ? null : beds.get(bed);
            return before;
        }

        double share() {
            double sound = 0;
            for (Wheel w : wheels) {
                sound += w.cracked() ? 0 : 1;
            }
            return wheels.isEmpty() ? 0 : sound / wheels.size();
        }

        long ring(int wheel) {
            if (!in(wheels, wheel)) {
                return OUTSIDE;
            }
            Wheel w = wheels.get(wheel);
            if (w.how == 3 || w.how == 4) {
                return UNTIMELY;
            }
            int tone = 50 - 4 * w.size - w.of.grit;
            return w.cracked() ? tone - 9 : tone;
        }

        long smash(int wheel) {
            if (!in(wheels, wheel)) {
                return OUTSIDE;
            }
            Wheel w = wheels.get(wheel);
            if (w.how != 0 && w.how != 1) {
                return UNTIMELY;
            }
            w.how = 4;
            w.of.stone = Math.min(200, w.of.stone + w.size / 2);
            return w.of.stone;
        }

        long build(int carries) {
            if (carries < 20 || carries > 400) {
                return ILLEGAL;
            }
            if (rafts.size() == 3) {
                return UNTIMELY;
            }
            Raft r = new Raft();
            r.carries = carries;
            rafts.add(r);
            return rafts.indexOf(r);
        }

        int left(Raft r) {
            int left = r.carries;
            for (Wheel w : wheels) {
                left -= w.on == r ? w.weight() : 0;
            }
            return left;
        }

        long load(int wheel, int raft) {
            if (!in(wheels, wheel) || !in(rafts, raft)) {
                return OUTSIDE;
            }
            Wheel w = wheels.get(wheel);
            Raft r = rafts.get(raft);
            if (w.how != 1 || r.away || left(r) - w.weight() < 0) {
                return UNTIMELY;
            }
            w.how = 2;
            w.on = r;
            return left(r);
        }

        long ship(int raft) {
            if (!in(rafts, raft)) {
                return OUTSIDE;
            }
            Raft r = rafts.get(raft);
            if (r.away || water() <= 1 || left(r) == r.carries) {
                return UNTIMELY;
            }
            int paid = 0;
            for (Wheel w : wheels) {
                if (w.on == r) {
                    paid += w.worth();
                    w.how = 3;
                    w.on = null;
                }
            }
            r.away = true;
            r.went = day;
            coins += paid;
            return paid;
        }

        long bed(int bed, int what) {
            if (!in(beds, bed) || what < 0 || what > 5) {
                return OUTSIDE;
            }
            Bed b = beds.get(bed);
            int there = 0;
            for (Quarrier q : quarriers) {
                there += q.at == b ? 1 : 0;
            }
            int sound = 0;
            for (Wheel w : wheels) {
                sound += w.of == b && !w.cracked() ? 1 : 0;
            }
            return new long[] {b.grit, b.flaw, b.stone, there, b.cut, sound}[what];
        }

        long quarrier(int quarrier, int what) {
            if (!in(quarriers, quarrier) || what < 0 || what > 4) {
                return OUTSIDE;
            }
            Quarrier q = quarriers.get(quarrier);
            int days = q.at == null ? -1 : 0;
            for (int dust = q.dust; q.at != null && dust < 60; dust += q.at.grit + 1) {
                days++;
            }
            return new long[] {q.skill, beds.indexOf(q.at), q.dust, q.work, days}[what];
        }

        long wheel(int wheel, int what) {
            if (!in(wheels, wheel) || what < 0 || what > 5) {
                return OUTSIDE;
            }
            Wheel w = wheels.get(wheel);
            return new long[] {beds.indexOf(w.of), w.size, w.weight(), w.how, w.worth(), rafts.indexOf(w.on)}[what];
        }

        long raft(int raft, int what) {
            if (!in(rafts, raft) || what < 0 || what > 3) {
                return OUTSIDE;
            }
            Raft r = rafts.get(raft);
            int upon = 0;
            for (Wheel w : wheels) {
                upon += w.on == r ? 1 : 0;
            }
            return new long[] {r.carries, left(r), upon, r.away ? 1 : 0}[what];
        }

        long count(int what) {
            if (what < 0 || what > 9) {
                return OUTSIDE;
            }
            long[] counts = {day, water(), water() >= 3 ? 1 : 0, wheels.size(), 0, 0, 0, 0, coins, 0};
            for (Wheel w : wheels) {
                if (w.how < 4) {
                    counts[4 + w.how]++;
                }
            }
            for (Quarrier q : quarriers) {
                counts[9] += q.dust;
            }
            return counts[what];
        }

        long pass(int days) {
            if (days < 1 || days > 40) {
                return ILLEGAL;
            }
            int before = wheels.size();
            for (int i = 0; i < days; i++) {
                live();
            }
            return wheels.size() - before;
        }

        long foresee(int days, int what) {
            if (days < 1 || days > 40) {
                return ILLEGAL;
            }
            return what == 3 || what == 4 || what == 5 || what == 9 ? behind(days).count(what) : OUTSIDE;
        }

        long advise(int quarrier, int days) {
            if (!in(quarriers, quarrier)) {
                return OUTSIDE;
            }
            if (days < 1 || days > 20) {
                return ILLEGAL;
            }
            long best = -1;
            long most = -1;
            for (int bed = 0; bed < beds.size(); bed++) {
                Model m = copied();
                m.quarriers.get(quarrier).at = m.beds.get(bed);
                long worth = 0;
                for (Wheel w : m.behind(days).wheels) {
                    worth += w.worth();
                }
                if (worth > most) {
                    most = worth;
                    best = bed;
                }
            }
            return best;
        }

        long digest() {
            long d = 1237;
            for (int what = 0; what < 10; what++) {
                d = d * 31 + count(what);
            }
            for (int water : fall) {
                d = d * 31 + water;
            }
            for (int i = 0; i < beds.size() * 6; i++) {
                d = d * 31 + bed(i / 6, i % 6);
            }
            for (int i = 0; i < quarriers.size() * 5; i++) {
                d = d * 31 + quarrier(i / 5, i % 5);
            }
            for (int i = 0; i < wheels.size() * 6; i++) {
                d = d * 31 + wheel(i / 6, i % 6);
            }
            for (int i = 0; i < rafts.size() * 4; i++) {
                d = d * 31 + raft(i / 4, i % 4);
            }
            return d;
        }
    }
}
