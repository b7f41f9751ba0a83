import java.util.Arrays;

/** The document's sentences on the walls that name a boundary case, each by a test of its own. */
public final class FieldEdgesTest {
    private static final Due due = new Due();

    public static void main(String[] args) {
        constant();
        lastOf512CallsAsks();
        lastOf512CallsPuts();
        newHasNoWalls();
        newHasNoRay();
        numbersFrom0To63();
        leastNumberThatNoneHas();
        putNumbersInRange();
        putNumberIsNone();
        putOnePlace();
        putInAFullField();
        putSeveralReasons();
        putWithOneThatHasGone();
        takeNoneSuch();
        takeFirstAndLast();
        turnNoneSuch();
        turnFirstAndLast();
        clearEmpty();
        clearFull();
        onEnds();
        onTheLeastOne();
        onPlacesInRange();
        onNoneSuch();
        ofEdges();
        ofNoneSuch();
        ofNoSuchWhat();
        lookCountsFrom0To64();
        lookLeastNumber();
        lookRay();
        lookAnyOther();
        due.end();
    }

    private static void constant() {
        due.sentence("The constants", "NONE = -1");
        due.is("NONE", RayField.NONE, -1);
    }

    private static void lastOf512CallsAsks() {
        due.sentence("What it is", "at most 512 calls");
        RayField f = Fields.full();
        f.ray(0, -1, 0, 1);
        for (int pair = 0; pair < 223; pair++) {
            int number = pair * 7 % 64;
            due.is("take", f.take(number), true);
            due.is("put", f.put(10, number, -10, number), number);
        }
        due.is("met() as the 512th call", f.met(), 64);
    }

    private static void lastOf512CallsPuts() {
        due.sentence("What it is", "at most 512 calls");
        RayField f = new RayField();
        for (int call = 0; call < 448; call++) {
            due.is("a refused put", f.put(2001, call, 0, 0), -1);
        }
        for (int n = 0; n < 63; n++) {
            due.is("put", f.put(-10, n, 10, n), n);
        }
        due.is("put as the 512th call", f.put(-10, 63, 10, 63), 63);
        RayField rays = new RayField();
        rays.put(1000, -2000, 1000, 2000);
        for (int call = 0; call < 510; call++) {
            due.is("ray", rays.ray(-call, 0, 1, 0), true);
        }
        due.is("times as the 512th call", rays.times(0, 1), 1509);
    }

    private static void newHasNoWalls() {
        due.sentence("Promise 1", "No WALLS");
        RayField f = new RayField();
        due.is("look(0)", f.look(0), 0);
        due.is("look(1)", f.look(1), 0);
        due.is("on(0, 0)", f.on(0, 0), -1);
        for (int n = 0; n < 64; n++) {
            due.is("of(" + n + ", 0)", f.of(n, 0), 100000);
            due.is("take(" + n + ")", f.take(n), false);
            due.is("turn(" + n + ")", f.turn(n), false);
        }
        f.ray(0, 0, 1, 0);
        due.is("met()", f.met(), 0);
    }

    private static void newHasNoRay() {
        due.sentence("Promise 1", "no RAY");
        RayField f = new RayField();
        due.is("look(2)", f.look(2), 0);
        due.is("met()", f.met(), -1);
        due.is("within(0, 1)", f.within(0, 1), -1);
        f.put(10, -10, 10, 10);
        f.put(-10, 10, 10, 10);
        due.is("met() with walls", f.met(), -1);
        due.is("wall(0) with walls", f.wall(0), -1);
    }

    private static void numbersFrom0To63() {
        due.sentence("Terms", "up to 64 WALLS, numbered 0 .. 63 as they are put in");
        RayField f = new RayField();
        for (int n = 0; n < 64; n++) {
            due.is("put number " + n, f.put(-10, n, 10, n), n);
        }
        due.is("look(0)", f.look(0), 64);
        due.is("of(63, 1)", f.of(63, 1), 63);
    }

    private static void leastNumberThatNoneHas() {
        due.sentence("Terms", "the least number that none has");
        RayField f = Fields.full();
        int[] gone = {63, 0, 40, 5};
        for (int number : gone) {
            f.take(number);
        }
        due.is("first", f.put(-10, 100, 10, 100), 0);
        due.is("second", f.put(-10, 101, 10, 101), 5);
        due.is("third", f.put(-10, 102, 10, 102), 40);
        due.is("fourth", f.put(-10, 103, 10, 103), 63);
        due.is("fifth", f.put(-10, 104, 10, 104), -1);
    }

    private static void putNumbersInRange() {
        due.sentence("Terms", "x and y -2000 .. 2000");
        int[] wall = {3, 5, 8, 13};
        for (int at = 0; at < 4; at++) {
            for (int edge : new int[] {-2000, -1999, 0, 1999, 2000}) {
                int[] w = Fields.with(wall, at, edge);
                RayField f = new RayField();
                due.is("put " + Arrays.toString(w), Fields.put(f, w), 0);
                due.is("of(0, " + at + ")", f.of(0, at), edge);
            }
        }
        RayField f = new RayField();
        due.is("corner to corner", f.put(-2000, -2000, 2000, 2000), 0);
        due.is("the upper left corner", f.put(-2000, 2000, -2000, 1999), 1);
        due.is("the lower right corner", f.put(2000, -2000, 1999, -2000), 2);
    }

    private static void putNumberIsNone() {
        due.sentence("Promise 2", "NONE if a number is none");
        int[] wall = {3, 5, 8, 13};
        RayField f = new RayField();
        for (int at = 0; at < 4; at++) {
            for (int none : Fields.outside(-2000, 2000)) {
                int[] w = Fields.with(wall, at, none);
                due.is("put " + Arrays.toString(w), Fields.put(f, w), -1);
            }
        }
        due.is("all too large", f.put(2001, 2002, 2003, 2004), -1);
        due.is("from the least to the greatest int",
            f.put(Integer.MIN_VALUE, 0, Integer.MAX_VALUE, 0), -1);
        due.is("look(0)", f.look(0), 0);
    }

    private static void putOnePlace() {
        due.sentence("Promise 2", "both ends are one place");
        RayField f = new RayField();
        for (int x : new int[] {-2000, -1, 0, 1, 2000}) {
            due.is("both at " + x, f.put(x, x, x, x), -1);
            due.is("both at " + x + ", 7", f.put(x, 7, x, 7), -1);
            due.is("both at 7, " + x, f.put(7, x, 7, x), -1);
        }
        due.is("look(0)", f.look(0), 0);
        due.is("the same x", f.put(7, 7, 7, 8), 0);
        due.is("the same y", f.put(9, 7, 10, 7), 1);
        due.is("x and y exchanged", f.put(20, 21, 21, 20), 2);
        due.is("an end of another one", f.put(7, 8, 7, 8), -1);
    }

    private static void putInAFullField() {
        due.sentence("Promise 2", "there are 64");
        RayField f = Fields.full();
        due.is("one more", f.put(-10, 100, 10, 100), -1);
        due.is("and again", f.put(500, 500, 501, 501), -1);
        due.is("look(0)", f.look(0), 64);
        due.is("on it", f.on(0, 100), -1);
        due.is("take(31)", f.take(31), true);
        due.is("now there are 63", f.put(-10, 100, 10, 100), 31);
        due.is("and 64 again", f.put(-10, 101, 10, 101), -1);
    }

    private static void putSeveralReasons() {
        due.sentence("Promise 2", "NONE if .., .., .., or ..");
        RayField f = Fields.full();
        due.is("full, and no number", f.put(2001, 0, 0, 0), -1);
        due.is("full, and one place", f.put(500, 500, 500, 500), -1);
        due.is("full, and across", f.put(0, 0, 0, 9), -1);
        RayField one = new RayField();
        one.put(0, 0, 10, 0);
        due.is("one place on another one", one.put(5, 0, 5, 0), -1);
        due.is("no number, and across", one.put(5, -2001, 5, 10), -1);
        due.is("one place that is none", one.put(2001, 0, 2001, 0), -1);
    }

    private static void putWithOneThatHasGone() {
        due.sentence("Promise 2", "a place in common with another one");
        RayField f = new RayField();
        f.put(0, 0, 10, 0);
        f.turn(0);
        due.is("across one that was turned", f.put(5, -5, 5, 5), -1);
        f.take(0);
        due.is("across one that has gone", f.put(5, -5, 5, 5), 0);
        due.is("where that one was", f.put(0, 0, 10, 0), -1);
        f.clear();
        due.is("after clear", f.put(0, 0, 10, 0), 0);
        RayField full = Fields.full();
        full.take(0);
        due.is("across number 63 alone", full.put(0, 100, 1, 63), -1);
        due.is("across number 1 alone", full.put(0, 1, 0, -5), -1);
    }

    private static void takeNoneSuch() {
        due.sentence("Promise 3", "false if there is none such");
        RayField empty = new RayField();
        due.is("take(0) of an empty field", empty.take(0), false);
        RayField f = Fields.full();
        for (int none : Fields.NO_NUMBERS) {
            due.is("take(" + none + ")", f.take(none), false);
        }
        due.is("look(0)", f.look(0), 64);
        due.is("take(20)", f.take(20), true);
        due.is("take(20) again", f.take(20), false);
        due.is("look(0)", f.look(0), 63);
        f.clear();
        due.is("take(21) after clear", f.take(21), false);
    }

    private static void takeFirstAndLast() {
        due.sentence("Promise 3", "A WALL goes: true");
        RayField f = Fields.full();
        due.is("take(63)", f.take(63), true);
        due.is("take(0)", f.take(0), true);
        due.is("of(63, 0)", f.of(63, 0), 100000);
        due.is("of(0, 0)", f.of(0, 0), 100000);
        due.is("on(0, 63)", f.on(0, 63), -1);
        due.is("on(0, 0)", f.on(0, 0), -1);
        due.is("on(0, 1)", f.on(0, 1), 1);
        due.is("on(0, 62)", f.on(0, 62), 62);
        for (int n = 1; n < 63; n++) {
            due.is("take(" + n + ")", f.take(n), true);
        }
        due.is("look(0) of the field that is empty again", f.look(0), 0);
    }

    private static void turnNoneSuch() {
        due.sentence("Promise 4", "likewise");
        RayField empty = new RayField();
        due.is("turn(0) of an empty field", empty.turn(0), false);
        RayField f = Fields.full();
        for (int none : Fields.NO_NUMBERS) {
            due.is("turn(" + none + ")", f.turn(none), false);
        }
        f.take(20);
        due.is("turn(20) of one that has gone", f.turn(20), false);
        due.is("of(20, 0)", f.of(20, 0), 100000);
        f.clear();
        due.is("turn(21) after clear", f.turn(21), false);
    }

    private static void turnFirstAndLast() {
        due.sentence("Promise 4", "its ends are exchanged");
        RayField f = Fields.full();
        f.take(5);
        f.put(-2000, -1999, 1998, 1997);
        due.is("it is across the others", f.look(0), 63);
        f.put(-2000, -1999, 1998, -1997);
        for (int number : new int[] {0, 5, 63}) {
            int ax = f.of(number, 0), ay = f.of(number, 1), bx = f.of(number, 2), by = f.of(number, 3);
            for (int turns = 1; turns <= 3; turns++) {
                boolean odd = turns % 2 == 1;
                due.is("turn(" + number + ")", f.turn(number), true);
                due.is("A.x", f.of(number, 0), odd ? bx : ax);
                due.is("A.y", f.of(number, 1), odd ? by : ay);
                due.is("B.x", f.of(number, 2), odd ? ax : bx);
                due.is("B.y", f.of(number, 3), odd ? ay : by);
            }
        }
        due.is("of(1, 0), not turned", f.of(1, 0), -10);
        due.is("of(62, 0), not turned", f.of(62, 0), -10);
        due.is("look(0)", f.look(0), 64);
    }

    private static void clearEmpty() {
        due.sentence("Promise 5", "No WALLS");
        RayField f = new RayField();
        f.clear();
        f.clear();
        due.is("look(0)", f.look(0), 0);
        due.is("look(1)", f.look(1), 0);
        due.is("look(2)", f.look(2), 0);
        due.is("met()", f.met(), -1);
        due.is("put", f.put(0, 0, 1, 1), 0);
    }

    private static void clearFull() {
        due.sentence("Promise 5", "No WALLS");
        RayField f = Fields.full();
        f.ray(0, -1, 0, 1);
        f.clear();
        due.is("look(0)", f.look(0), 0);
        due.is("look(1)", f.look(1), 0);
        due.is("met() of the ray that is kept", f.met(), 0);
        due.is("wall(0)", f.wall(0), -1);
        for (int n = 0; n < 64; n++) {
            due.is("of(" + n + ", 0)", f.of(n, 0), 100000);
            due.is("on(0, " + n + ")", f.on(0, n), -1);
        }
        for (int n = 0; n < 64; n++) {
            due.is("put number " + n, f.put(0, n, 10, n), n);
        }
        due.is("one more", f.put(0, 100, 10, 100), -1);
        due.is("met()", f.met(), 64);
    }

    private static void onEnds() {
        due.sentence("Promise 13", "lies on, ends with it");
        int[][] walls = {{0, 0, 10, 5}, {5, 10, 0, 0}, {0, 0, -10, 0}, {0, -10, 0, 0}, {-10, 5, 10, -5}};
        for (int[] w : walls) {
            RayField f = new RayField();
            Fields.put(f, w);
            String wall = Arrays.toString(w);
            int stepX = (w[2] - w[0]) / 5, stepY = (w[3] - w[1]) / 5;
            due.is("A of " + wall, f.on(w[0], w[1]), 0);
            due.is("B of " + wall, f.on(w[2], w[3]), 0);
            due.is("next to A of " + wall, f.on(w[0] + stepX, w[1] + stepY), 0);
            due.is("next to B of " + wall, f.on(w[2] - stepX, w[3] - stepY), 0);
            due.is("before A of " + wall, f.on(w[0] - stepX, w[1] - stepY), -1);
            due.is("behind B of " + wall, f.on(w[2] + stepX, w[3] + stepY), -1);
            due.is("beside " + wall, f.on(w[0] + stepX + 1, w[1] + stepY + 1), -1);
        }
        RayField f = new RayField();
        f.put(-2000, -2000, 2000, 1999);
        due.is("a corner of the field", f.on(-2000, -2000), 0);
        due.is("its other end", f.on(2000, 1999), 0);
        due.is("least above it", f.on(-1999, -1999), -1);
        due.is("least below it", f.on(1999, 1998), -1);
    }

    private static void onTheLeastOne() {
        due.sentence("Promise 13", "the least one");
        RayField f = new RayField();
        f.put(50, 50, 60, 50);
        f.put(0, 0, 10, 0);
        f.put(0, 0, 0, 10);
        f.put(-10, 0, 0, 0);
        due.is("an end of 1, 2 and 3", f.on(0, 0), 1);
        f.turn(1);
        due.is("with 1 turned", f.on(0, 0), 1);
        f.take(1);
        due.is("an end of 2 and 3", f.on(0, 0), 2);
        f.take(0);
        f.put(0, 0, 0, -10);
        due.is("an end of 0, 2 and 3", f.on(0, 0), 0);
        f.take(0);
        f.take(2);
        due.is("an end of 3", f.on(0, 0), 3);
        f.take(3);
        due.is("an end of none", f.on(0, 0), -1);
    }

    private static void onPlacesInRange() {
        due.sentence("Promise 13", "a place (-4000 .. 4000 each)");
        RayField f = new RayField();
        f.put(2000, 2000, 2000, 0);
        f.put(-2000, -2000, -2000, 0);
        due.is("the corner", f.on(2000, 2000), 0);
        due.is("the other corner", f.on(-2000, -2000), 1);
        for (int x : new int[] {-4000, -2001, 2001, 4000}) {
            due.is("on(" + x + ", 1000)", f.on(x, 1000), -1);
            due.is("on(2000, " + x + ")", f.on(2000, x), -1);
            due.is("on(" + x + ", " + x + ")", f.on(x, x), -1);
        }
        for (int none : Fields.outside(-4000, 4000)) {
            due.is("on(" + none + ", 1000)", f.on(none, 1000), -1);
            due.is("on(2000, " + none + ")", f.on(2000, none), -1);
            due.is("on(" + none + ", " + none + ")", f.on(none, none), -1);
        }
    }

    private static void onNoneSuch() {
        due.sentence("Promise 13", "NONE if there is none such");
        RayField f = new RayField();
        due.is("in an empty field", f.on(0, 0), -1);
        f.put(0, 1, 1, 0);
        due.is("beside the only one", f.on(0, 0), -1);
        due.is("beside the only one", f.on(1, 1), -1);
        f.clear();
        due.is("after clear", f.on(0, 1), -1);
        RayField full = Fields.full();
        due.is("above all of a full field", full.on(0, 64), -1);
        due.is("the last of a full field", full.on(10, 63), 63);
        due.is("left of a full field", full.on(-11, 63), -1);
    }

    private static void ofEdges() {
        due.sentence("Promise 14", "what 0, 1: A, 2, 3: B");
        RayField f = new RayField();
        f.put(-2000, 2000, 1999, -1999);
        due.is("of(0, 0)", f.of(0, 0), -2000);
        due.is("of(0, 1)", f.of(0, 1), 2000);
        due.is("of(0, 2)", f.of(0, 2), 1999);
        due.is("of(0, 3)", f.of(0, 3), -1999);
        RayField full = Fields.full();
        due.is("of(63, 0)", full.of(63, 0), -10);
        due.is("of(63, 1)", full.of(63, 1), 63);
        due.is("of(63, 2)", full.of(63, 2), 10);
        due.is("of(63, 3)", full.of(63, 3), 63);
    }

    private static void ofNoneSuch() {
        due.sentence("Promise 14", "100000 if there is none such");
        RayField empty = new RayField();
        RayField f = Fields.full();
        f.take(40);
        for (int what = 0; what < 4; what++) {
            due.is("of(0, " + what + ") of an empty field", empty.of(0, what), 100000);
            due.is("of(40, " + what + ") of one that has gone", f.of(40, what), 100000);
            for (int none : Fields.NO_NUMBERS) {
                due.is("of(" + none + ", " + what + ")", f.of(none, what), 100000);
            }
        }
    }

    private static void ofNoSuchWhat() {
        due.sentence("Promise 14", "100000 if .. no such what");
        RayField f = Fields.full();
        for (int what : new int[] {-1, 4, 5, 256, 65536, Integer.MIN_VALUE, Integer.MAX_VALUE}) {
            due.is("of(0, " + what + ")", f.of(0, what), 100000);
            due.is("of(63, " + what + ")", f.of(63, what), 100000);
            due.is("of(64, " + what + ")", f.of(64, what), 100000);
        }
    }

    private static void lookCountsFrom0To64() {
        due.sentence("Promise 15", "which 0: WALLS");
        RayField f = new RayField();
        for (int n = 0; n < 64; n++) {
            due.is("look(0)", f.look(0), n);
            f.put(-10, n, 10, n);
        }
        due.is("look(0) of a full field", f.look(0), 64);
        f.put(-10, 100, 10, 100);
        due.is("look(0) after a refused put", f.look(0), 64);
        f.turn(0);
        due.is("look(0) after turn", f.look(0), 64);
        f.take(64);
        due.is("look(0) after a refused take", f.look(0), 64);
        f.take(0);
        due.is("look(0) after take", f.look(0), 63);
        f.clear();
        due.is("look(0) after clear", f.look(0), 0);
    }

    private static void lookLeastNumber() {
        due.sentence("Promise 15", "1: the least number that none has (NONE if there are 64)");
        RayField f = new RayField();
        for (int n = 0; n < 64; n++) {
            due.is("look(1)", f.look(1), n);
            f.put(-10, n, 10, n);
        }
        due.is("look(1) of a full field", f.look(1), -1);
        f.take(63);
        due.is("look(1) without 63", f.look(1), 63);
        f.take(30);
        due.is("look(1) without 30 and 63", f.look(1), 30);
        f.take(0);
        due.is("look(1) without 0, 30 and 63", f.look(1), 0);
        f.put(-10, 100, 10, 100);
        due.is("look(1) with 0 again", f.look(1), 30);
        f.clear();
        due.is("look(1) after clear", f.look(1), 0);
    }

    private static void lookRay() {
        due.sentence("Promise 15", "2: 1 if there is a RAY, else 0");
        RayField f = new RayField();
        due.is("look(2) at first", f.look(2), 0);
        f.ray(0, 0, 0, 0);
        due.is("look(2) after a refused ray", f.look(2), 0);
        f.ray(0, 0, 1, 0);
        due.is("look(2) with a ray", f.look(2), 1);
        f.ray(0, 0, 0, 0);
        due.is("look(2) with the ray that is kept", f.look(2), 1);
        f.clear();
        due.is("look(2) after clear", f.look(2), 1);
    }

    private static void lookAnyOther() {
        due.sentence("Promise 15", "NONE for any other which");
        RayField f = Fields.full();
        f.ray(0, -1, 0, 1);
        for (int which : new int[] {-2, -1, 3, 4, 256, 65536, Integer.MIN_VALUE, Integer.MAX_VALUE}) {
            due.is("look(" + which + ")", f.look(which), -1);
        }
    }
}
