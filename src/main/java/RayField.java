/**
 * Walls that do not cross, and rays through them: which are met, in what order, from which side.
 *
 * The document ../shared/DOC.md says what each call answers. E, D, A, B, a, b, P, Q and R are its
 * letters; every product below fits a long by the limits that it sets.
 */
public final class RayField {
    public static final int NONE = -1;

    private static final int MOST_WALLS = 64;
    private static final int WALL_REACH = 2000;
    private static final int PLACE_REACH = 4000;
    private static final int DIRECTION_REACH = 20000;
    private static final int MOST_FACTOR = 1000000;
    private static final long WHOLE_WALL = 1024;
    private static final int NO_COORDINATE = 100000;

    // By number; null where no wall has the number.
    private final Wall[] walls;
    private int wallCount;

    // Null until a ray is told.
    private Ray theRay;

    // The first metCount are what theRay meets, in order; those behind are kept to be filled again,
    // so that a change of the field makes no new objects.
    private final Meeting[] meetings;
    private int metCount;

    public RayField() {
        walls = new Wall[MOST_WALLS];
        meetings = new Meeting[MOST_WALLS];
    }

    public int put(int ax, int ay, int bx, int by) {
        if (!isPlace(ax, ay, WALL_REACH) || !isPlace(bx, by, WALL_REACH)) {
            return NONE;
        }
        if (ax == bx && ay == by) {
            return NONE;
        }
        int number = leastFreeNumber();
        if (!isNumber(number)) {
            return NONE;
        }
        Wall wall = new Wall(ax, ay, bx, by);
        if (clashes(wall)) {
            return NONE;
        }
        walls[number] = wall;
        wallCount++;
        meetAgain();
        return number;
    }

    public boolean take(int wall) {
        if (wallNumbered(wall) == null) {
            return false;
        }
        walls[wall] = null;
        wallCount--;
        meetAgain();
        return true;
    }

    public boolean turn(int wall) {
        Wall turned = wallNumbered(wall);
        if (turned == null) {
            return false;
        }
        turned.exchangeEnds();
        meetAgain();
        return true;
    }

    public void clear() {
        for (int number = 0; number < walls.length; number++) {
            walls[number] = null;
        }
        wallCount = 0;
        meetAgain();
    }

    public boolean ray(int x, int y, int dx, int dy) {
        if (!isPlace(x, y, PLACE_REACH) || !isPlace(dx, dy, DIRECTION_REACH)) {
            return false;
        }
        if (dx == 0 && dy == 0) {
            return false;
        }
        theRay = new Ray(x, y, dx, dy);
        meetAgain();
        return true;
    }

    public int met() {
        return theRay == null ? NONE : metCount;
    }

    public int wall(int i) {
        Meeting meeting = meetingAt(i);
        return meeting == null ? NONE : meeting.number;
    }

    public boolean isRight(int i) {
        Meeting meeting = meetingAt(i);
        return meeting != null && meeting.fromRight;
    }

    public long times(int i, int n) {
        Meeting meeting = meetingAt(i);
        if (meeting == null || !isBetween(n, 0, MOST_FACTOR)) {
            return NONE;
        }
        return meeting.roundedDown(n * meeting.distance);
    }

    public int along(int i) {
        Meeting meeting = meetingAt(i);
        return meeting == null ? NONE : (int) meeting.roundedDown(WHOLE_WALL * meeting.advance);
    }

    public int within(int n, int d) {
        if (theRay == null || !isBetween(n, 0, MOST_FACTOR) || !isBetween(d, 1, MOST_FACTOR)) {
            return NONE;
        }
        int count = 0;
        for (int i = 0; i < metCount; i++) {
            Meeting meeting = meetingAt(i);
            if (meeting != null && meeting.isAtMost(n, d)) {
                count++;
            }
        }
        return count;
    }

    public int on(int x, int y) {
        if (!isPlace(x, y, PLACE_REACH)) {
            return NONE;
        }
        for (int number = 0; number < walls.length; number++) {
            Wall wall = walls[number];
            if (wall != null && wall.covers(x, y)) {
                return number;
            }
        }
        return NONE;
    }

    public int of(int wall, int what) {
        Wall asked = wallNumbered(wall);
        if (asked == null) {
            return NO_COORDINATE;
        }
        switch (what) {
            case 0:
                return asked.ax;
            case 1:
                return asked.ay;
            case 2:
                return asked.bx;
            case 3:
                return asked.by;
            default:
                return NO_COORDINATE;
        }
    }

    public int look(int which) {
        switch (which) {
            case 0:
                return wallCount;
            case 1:
                return leastFreeNumber();
            case 2:
                return theRay == null ? 0 : 1;
            default:
                return NONE;
        }
    }

    private int leastFreeNumber() {
        for (int number = 0; number < walls.length; number++) {
            if (walls[number] == null) {
                return number;
            }
        }
        return NONE;
    }

    private Wall wallNumbered(int number) {
        return isNumber(number) ? walls[number] : null;
    }

    private boolean clashes(Wall wall) {
        for (int number = 0; number < walls.length; number++) {
            Wall other = walls[number];
            if (other != null && wall.clashesWith(other)) {
                return true;
            }
        }
        return false;
    }

    private Meeting meetingAt(int i) {
        return i >= 0 && i < metCount && i < meetings.length ? meetings[i] : null;
    }

    private void meetAgain() {
        metCount = 0;
        Ray ray = theRay;
        if (ray == null) {
            return;
        }
        for (int number = 0; number < walls.length; number++) {
            Wall wall = walls[number];
            if (wall != null && metCount < meetings.length) {
                meetOne(number, wall, ray);
            }
        }
    }

    private void meetOne(int number, Wall wall, Ray ray) {
        Meeting meeting = meetings[metCount];
        if (meeting == null) {
            meeting = new Meeting();
            meetings[metCount] = meeting;
        }
        if (meeting.fill(number, wall, ray)) {
            sortIn(meeting);
        }
    }

    // Walls come here by their numbers, so one of the same R stays behind those that are there.
    private void sortIn(Meeting meeting) {
        int at = metCount;
        for (; at > 0; at--) {
            Meeting before = meetings[at - 1];
            if (before == null || !meeting.isNearerThan(before)) {
                break;
            }
            meetings[at] = before;
        }
        meetings[at] = meeting;
        metCount++;
    }

    private static boolean isNumber(int number) {
        return isBetween(number, 0, MOST_WALLS - 1);
    }

    private static boolean isPlace(int x, int y, int reach) {
        return isBetween(x, -reach, reach) && isBetween(y, -reach, reach);
    }

    private static boolean isBetween(int value, int least, int most) {
        return value >= least && value <= most;
    }

    private static long cross(long px, long py, long qx, long qy) {
        return px * qy - py * qx;
    }

    /** A wall from A to B. */
    private static final class Wall {
        private int ax;
        private int ay;
        private int bx;
        private int by;

        Wall(int ax, int ay, int bx, int by) {
            this.ax = ax;
            this.ay = ay;
            this.bx = bx;
            this.by = by;
        }

        void exchangeEnds() {
            int x = ax;
            int y = ay;
            ax = bx;
            ay = by;
            bx = x;
            by = y;
        }

        /** Below 0 for a place on the right of the way from A to B, 0 for one on its line. */
        long side(int x, int y) {
            return cross(bx - ax, by - ay, x - ax, y - ay);
        }

        boolean covers(int x, int y) {
            return side(x, y) == 0
                && isBetween(x, Math.min(ax, bx), Math.max(ax, bx))
                && isBetween(y, Math.min(ay, by), Math.max(ay, by));
        }

        /** Whether both have a place in common that is not an end of both. */
        boolean clashesWith(Wall other) {
            long sideOfA = side(other.ax, other.ay);
            long sideOfB = side(other.bx, other.by);
            if (sideOfA == 0 && sideOfB == 0) {
                return overlapsOnItsLine(other);
            }
            // Two lines have one place in common at most: if that is an end of both, there is no other.
            return !sharesEndWith(other)
                && sideOfA * sideOfB <= 0
                && other.side(ax, ay) * other.side(bx, by) <= 0;
        }

        /** For walls on one line: those that only touch do so with an end of both. */
        private boolean overlapsOnItsLine(Wall other) {
            return commonLength(ax, bx, other.ax, other.bx) > 0
                || commonLength(ay, by, other.ay, other.by) > 0;
        }

        private boolean sharesEndWith(Wall other) {
            return other.hasEnd(ax, ay) || other.hasEnd(bx, by);
        }

        private boolean hasEnd(int x, int y) {
            return (x == ax && y == ay) || (x == bx && y == by);
        }

        private static int commonLength(int from, int to, int otherFrom, int otherTo) {
            int start = Math.max(Math.min(from, to), Math.min(otherFrom, otherTo));
            int end = Math.min(Math.max(from, to), Math.max(otherFrom, otherTo));
            return end - start;
        }
    }

    /** A ray from E in the direction D. */
    private static final class Ray {
        private final int ex;
        private final int ey;
        private final int dx;
        private final int dy;

        Ray(int ex, int ey, int dx, int dy) {
            this.ex = ex;
            this.ey = ey;
            this.dx = dx;
            this.dy = dy;
        }

        /** cross(D, place - E): a for the place A, b for the place B. */
        long side(int x, int y) {
            return cross(dx, dy, x - ex, y - ey);
        }
    }

    /** A wall as the ray meets it, its quotients without their signs: none of them is below 0. */
    private static final class Meeting {
        private int number;
        private boolean fromRight;
        // R is distance / divisor, and a / (a - b) is advance / divisor.
        private long distance;
        private long advance;
        private long divisor;

        /** False, and nothing is filled in, if the ray does not meet the wall. */
        boolean fill(int wallNumber, Wall wall, Ray ray) {
            long a = ray.side(wall.ax, wall.ay);
            long b = ray.side(wall.bx, wall.by);
            if ((a < 0) == (b < 0)) {
                return false;
            }
            // P = cross(A - E, B - A) is the same as cross(B - A, E - A).
            long p = wall.side(ray.ex, ray.ey);
            long q = b - a;
            if (p == 0 || (p < 0) != (q < 0)) {
                return false;
            }
            number = wallNumber;
            fromRight = p < 0;
            distance = Math.abs(p);
            advance = Math.abs(a);
            divisor = Math.abs(q);
            return true;
        }

        boolean isNearerThan(Meeting other) {
            return distance * other.divisor < other.distance * divisor;
        }

        boolean isAtMost(long n, long d) {
            return distance * d <= n * divisor;
        }

        long roundedDown(long dividend) {
            return divisor > 0 ? Math.floorDiv(dividend, divisor) : NONE;
        }
    }
}
