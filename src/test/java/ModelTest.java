import java.math.BigInteger;
import java.util.ArrayList;
import java.util.List;
import java.util.Random;
import java.util.TreeMap;

/** Long runs of calls, drawn from fixed seeds, against a model that is written in fractions. */
public final class ModelTest {
    private static final int CALLS = 512;
    private static final int[] WILD = {
        Integer.MIN_VALUE, Integer.MAX_VALUE, -1, 0, 1, 63, 64, 2000, -2000, 2001, -2001, 4000, -4000,
        4001, -4001, 20000, -20000, 20001, -20001, 1000000, 1000001};

    public static void main(String[] args) {
        Due due = new Due();
        int[] spreads = {3, 6, 12, 40, 300, 2000};
        for (int spread : spreads) {
            for (int seed = 0; seed < 400; seed++) {
                due.promise("spread " + spread + ", seed " + seed);
                new Run(due, spread, seed).go();
            }
        }
        due.end();
    }

    /** One object's calls beside the model's. */
    private static final class Run {
        private final Due due;
        private final int spread;
        private final Random random;
        private final RayField field = new RayField();
        private final Model model = new Model();
        private final StringBuilder said = new StringBuilder();

        Run(Due due, int spread, int seed) {
            this.due = due;
            this.spread = spread;
            this.random = new Random(31L * spread + 7919L * seed);
        }

        void go() {
            for (int call = 0; call < CALLS; call++) {
                step(random.nextInt(100));
            }
        }

        private void step(int kind) {
            if (kind < 30) {
                int ax = near(spread), ay = near(spread);
                boolean isShort = random.nextBoolean();
                int bx = isShort ? ax + near(spread / 4 + 1) : near(spread);
                int by = isShort ? ay + near(spread / 4 + 1) : near(spread);
                check(text("put", ax, ay, bx, by), field.put(ax, ay, bx, by), model.put(ax, ay, bx, by));
            } else if (kind < 34) {
                int wall = number();
                check(text("take", wall), field.take(wall) ? 1 : 0, model.take(wall) ? 1 : 0);
            } else if (kind < 38) {
                int wall = number();
                check(text("turn", wall), field.turn(wall) ? 1 : 0, model.turn(wall) ? 1 : 0);
            } else if (kind < 39 && random.nextInt(8) == 0) {
                field.clear();
                model.walls.clear();
                said.append(" clear()");
            } else if (kind < 50) {
                int x = near(2 * spread), y = near(2 * spread);
                int reach = random.nextBoolean() ? 3 : Math.min(20000, 10 * spread);
                int dx = near(reach), dy = near(reach);
                check(text("ray", x, y, dx, dy), field.ray(x, y, dx, dy) ? 1 : 0, model.ray(x, y, dx, dy) ? 1 : 0);
            } else {
                ask(kind);
            }
        }

        private void ask(int kind) {
            List<Met> met = model.met();
            int i = random.nextInt(8) == 0 ? near(100) : random.nextInt(met == null ? 2 : met.size() + 1);
            Met one = met == null || i < 0 || i >= met.size() ? null : met.get(i);
            if (kind < 54) {
                check(text("met"), field.met(), met == null ? -1 : met.size());
            } else if (kind < 62) {
                check(text("wall", i), field.wall(i), one == null ? -1 : one.number);
            } else if (kind < 68) {
                check(text("isRight", i), field.isRight(i) ? 1 : 0, one != null && one.right ? 1 : 0);
            } else if (kind < 75) {
                int n = random.nextBoolean() ? number() : near(1000000);
                boolean none = one == null || n < 0 || n > 1000000;
                check(text("times", i, n), field.times(i, n), none ? -1 : one.r.times(n).floor());
            } else if (kind < 81) {
                check(text("along", i), field.along(i), one == null ? -1 : one.share.times(1024).floor());
            } else if (kind < 87) {
                askWithin(met, one);
            } else if (kind < 92) {
                int x = near(spread), y = near(spread);
                check(text("on", x, y), field.on(x, y), model.on(x, y));
            } else if (kind < 97) {
                int wall = number(), what = near(5);
                check(text("of", wall, what), field.of(wall, what), model.of(wall, what));
            } else {
                int which = near(4);
                check(text("look", which), field.look(which), model.look(which));
            }
        }

        private void askWithin(List<Met> met, Met one) {
            int n = near(100), d = near(10);
            if (one != null && random.nextBoolean()) {
                n = one.r.above.min(BigInteger.valueOf(1000001)).intValue();
                d = one.r.below.min(BigInteger.valueOf(1000001)).intValue();
            }
            long want = -1;
            if (met != null && n >= 0 && n <= 1000000 && d >= 1 && d <= 1000000) {
                want = 0;
                for (Met each : met) {
                    want += each.r.compareTo(new Fraction(n, d)) <= 0 ? 1 : 0;
                }
            }
            check(text("within", n, d), field.within(n, d), want);
        }

        private int near(int reach) {
            return random.nextInt(60) == 0
                ? WILD[random.nextInt(WILD.length)] : random.nextInt(2 * reach + 1) - reach;
        }

        private int number() {
            return random.nextInt(10) == 0 ? near(100) : random.nextInt(Math.max(1, model.walls.size() + 2));
        }

        private String text(String name, int... numbers) {
            StringBuilder call = new StringBuilder(name).append('(');
            for (int k = 0; k < numbers.length; k++) {
                call.append(k == 0 ? "" : ", ").append(numbers[k]);
            }
            return call.append(')').toString();
        }

        private void check(String call, long got, long want) {
            due.is(got == want ? call : said + " then " + call, got, want);
            if (call.startsWith("put") || call.startsWith("t") || call.startsWith("ray")) {
                said.append(' ').append(call);
            }
        }
    }

    /** The field as the document's words have it. */
    private static final class Model {
        private final TreeMap<Integer, int[]> walls = new TreeMap<>();
        private int[] ray;

        int put(int ax, int ay, int bx, int by) {
            int[] wall = {ax, ay, bx, by};
            for (int coordinate : wall) {
                if (coordinate < -2000 || coordinate > 2000) {
                    return -1;
                }
            }
            if (walls.size() == 64 || (ax == bx && ay == by)) {
                return -1;
            }
            for (int[] other : walls.values()) {
                if (clash(wall, other)) {
                    return -1;
                }
            }
            int number = look(1);
            walls.put(number, wall);
            return number;
        }

        /** The stretch of the first wall, from 0 at A to 1 at B, that the other one has too. */
        private static boolean clash(int[] one, int[] other) {
            long ux = one[2] - one[0], uy = one[3] - one[1];
            long vx = other[2] - other[0], vy = other[3] - other[1];
            long wx = other[0] - one[0], wy = other[1] - one[1];
            long slant = ux * vy - uy * vx;
            if (slant != 0) {
                Fraction here = new Fraction(wx * vy - wy * vx, slant);
                Fraction there = new Fraction(wx * uy - wy * ux, slant);
                boolean common = here.isShare() && there.isShare();
                return common && !(here.isEnd() && there.isEnd());
            }
            if (ux * wy - uy * wx != 0) {
                return false;
            }
            long length = ux * ux + uy * uy;
            Fraction a = new Fraction(ux * wx + uy * wy, length);
            Fraction b = new Fraction(ux * (wx + vx) + uy * (wy + vy), length);
            Fraction from = a.compareTo(b) < 0 ? a : b;
            Fraction to = a.compareTo(b) < 0 ? b : a;
            return from.compareTo(new Fraction(1, 1)) < 0 && to.compareTo(new Fraction(0, 1)) > 0;
        }

        boolean take(int number) {
            return walls.remove(number) != null;
        }

        boolean turn(int number) {
            int[] wall = walls.get(number);
            if (wall == null) {
                return false;
            }
            walls.put(number, new int[] {wall[2], wall[3], wall[0], wall[1]});
            return true;
        }

        boolean ray(int x, int y, int dx, int dy) {
            boolean told = x >= -4000 && x <= 4000 && y >= -4000 && y <= 4000 && dx >= -20000 && dx <= 20000
                && dy >= -20000 && dy <= 20000 && !(dx == 0 && dy == 0);
            if (told) {
                ray = new int[] {x, y, dx, dy};
            }
            return told;
        }

        List<Met> met() {
            if (ray == null) {
                return null;
            }
            List<Met> met = new ArrayList<>();
            for (int number : walls.keySet()) {
                int[] w = walls.get(number);
                long a = cross(ray[2], ray[3], w[0] - ray[0], w[1] - ray[1]);
                long b = cross(ray[2], ray[3], w[2] - ray[0], w[3] - ray[1]);
                long p = cross(w[0] - ray[0], w[1] - ray[1], w[2] - w[0], w[3] - w[1]);
                int below = (a < 0 ? 1 : 0) + (b < 0 ? 1 : 0);
                if (below == 1 && new Fraction(p, b - a).compareTo(new Fraction(0, 1)) > 0) {
                    met.add(new Met(number, p < 0, new Fraction(p, b - a), new Fraction(a, a - b)));
                }
            }
            met.sort((m, n) -> m.r.compareTo(n.r) != 0 ? m.r.compareTo(n.r) : Integer.compare(m.number, n.number));
            return met;
        }

        int on(int x, int y) {
            if (x < -4000 || x > 4000 || y < -4000 || y > 4000) {
                return -1;
            }
            for (int number : walls.keySet()) {
                int[] w = walls.get(number);
                long ax = w[0] - x, ay = w[1] - y, bx = w[2] - x, by = w[3] - y;
                if (cross(ax, ay, bx, by) == 0 && ax * bx + ay * by <= 0) {
                    return number;
                }
            }
            return -1;
        }

        int of(int number, int what) {
            int[] wall = walls.get(number);
            return wall == null || what < 0 || what > 3 ? 100000 : wall[what];
        }

        int look(int which) {
            if (which == 0) {
                return walls.size();
            }
            if (which == 2) {
                return ray == null ? 0 : 1;
            }
            for (int number = 0; which == 1 && number < 64; number++) {
                if (!walls.containsKey(number)) {
                    return number;
                }
            }
            return -1;
        }

        private static long cross(long px, long py, long qx, long qy) {
            return px * qy - py * qx;
        }
    }

    private record Met(int number, boolean right, Fraction r, Fraction share) { }

    private static final class Fraction implements Comparable<Fraction> {
        private final BigInteger above;
        private final BigInteger below;

        Fraction(long above, long below) {
            this(BigInteger.valueOf(above), BigInteger.valueOf(below));
        }

        private Fraction(BigInteger above, BigInteger below) {
            BigInteger common = above.gcd(below);
            BigInteger by = below.signum() < 0 ? common.negate() : common;
            this.above = above.divide(by);
            this.below = below.divide(by);
        }

        Fraction times(long n) {
            return new Fraction(above.multiply(BigInteger.valueOf(n)), below);
        }

        long floor() {
            BigInteger[] parts = above.divideAndRemainder(below);
            return parts[0].longValueExact() - (parts[1].signum() < 0 ? 1 : 0);
        }

        boolean isShare() {
            return above.signum() >= 0 && above.compareTo(below) <= 0;
        }

        boolean isEnd() {
            return above.signum() == 0 || above.equals(below);
        }

        @Override
        public int compareTo(Fraction other) {
            return above.multiply(other.below).compareTo(other.above.multiply(below));
        }
    }
}
