import java.util.Arrays;

/** The document's sentences on the ray that name a boundary case, each by a test of its own. */
public final class RayEdgesTest {
    private static final Due due = new Due();

    public static void main(String[] args) {
        justOneBelow0();
        justOneBelow0AtLittleDifference();
        quotientAbove0();
        quotientOfTheLeastSize();
        orderOfR();
        orderOfRAtLittleDifference();
        sameRByNumbers();
        metFromItsRight();
        rayIsKept();
        changesWithTheField();
        atFirstThereIsNone();
        rayInRange();
        rayOneOfTheseIsNone();
        rayWithoutDirection();
        metWithoutOne();
        metFrom0To64();
        wallNoneSuch();
        isRightNoneSuch();
        timesRoundedDown();
        timesInRange();
        timesGreatest();
        timesNoneSuch();
        timesNoSuchN();
        alongFrom0To1024();
        alongRoundedDown();
        alongNoneSuch();
        withinAtMost();
        withinInRange();
        withinWithoutARay();
        withinOneOfTheseIsNone();
        due.end();
    }

    private static void justOneBelow0() {
        due.sentence("Terms", "just one of a, b is below 0");
        // Of a ray along the x axis a and b have the signs of A.y and B.y.
        isMet("a below 0, b 0", true, 10, -1, 10, 0);
        isMet("a 0, b below 0", true, 10, 0, 10, -1);
        isMet("a below 0, b above 0", true, 10, -1, 10, 1);
        isMet("a above 0, b below 0", true, 10, 1, 10, -1);
        isMet("a 0, b above 0", false, 10, 0, 10, 1);
        isMet("a above 0, b 0", false, 10, 1, 10, 0);
        isMet("both above 0", false, 10, 1, 10, 2);
        isMet("both below 0", false, 10, -2, 10, -1);
        isMet("both 0", false, 10, 0, 20, 0);
        isMet("both 0, turned", false, 20, 0, 10, 0);
        isMet("a least, b greatest", true, 2000, -2000, 2000, 2000);
        isMet("a least, b 0", true, 2000, -2000, 2000, 0);
        isMet("a 0, b greatest", false, 2000, 0, 2000, 2000);
    }

    private static void justOneBelow0AtLittleDifference() {
        due.sentence("Terms", "just one of a, b is below 0");
        RayField f = new RayField();
        f.put(1, 1, 1, 0);
        f.put(1, 1, 1, 2);
        f.ray(0, 0, 20000, 19999);
        due.is("a 1, b below 0", f.met(), 1);
        due.is("wall(0)", f.wall(0), 0);
        f.ray(0, 0, 19999, 20000);
        due.is("a -1, b above 0", f.met(), 1);
        due.is("wall(0)", f.wall(0), 1);
        f.ray(0, 0, 20000, 20000);
        due.is("a 0", f.met(), 1);
        due.is("wall(0)", f.wall(0), 0);
        f.ray(4000, 4000, -20000, -20000);
        due.is("a 0, from the other side", f.met(), 1);
        due.is("wall(0)", f.wall(0), 1);
    }

    private static void isMet(String what, boolean met, int ax, int ay, int bx, int by) {
        for (int scale : new int[] {1, 20000}) {
            RayField f = new RayField();
            f.put(ax, ay, bx, by);
            f.ray(0, 0, scale, 0);
            due.is(what + ", met()", f.met(), met ? 1 : 0);
            due.is(what + ", wall(0)", f.wall(0), met ? 0 : -1);
        }
    }

    private static void quotientAbove0() {
        due.sentence("Terms", "the quotient P / Q is above 0");
        int[] steps = {1, -1, 20000, -20000};
        for (int step : steps) {
            for (boolean turned : new boolean[] {false, true}) {
                RayField f = new RayField();
                f.put(10, -10, 10, 10);
                if (turned) {
                    f.turn(0);
                }
                String way = " in the direction " + step + (turned ? ", turned" : "");
                f.ray(10, 0, step, 0);
                due.is("E amid the wall" + way, f.met(), 0);
                f.ray(10, 10, step, 0);
                due.is("E at an end" + way, f.met(), 0);
                f.ray(10, -10, step, step);
                due.is("E at the other end" + way, f.met(), 0);
                f.ray(10, 20, 0, step);
                due.is("E on its line" + way, f.met(), 0);
                f.ray(9, 0, step, 0);
                due.is("E a step left of it" + way, f.met(), step > 0 ? 1 : 0);
                f.ray(11, 0, step, 0);
                due.is("E a step right of it" + way, f.met(), step < 0 ? 1 : 0);
                f.ray(-4000, 0, step, 0);
                due.is("E far left of it" + way, f.met(), step > 0 ? 1 : 0);
                f.ray(4000, 0, step, 0);
                due.is("E far right of it" + way, f.met(), step < 0 ? 1 : 0);
            }
        }
    }

    private static void quotientOfTheLeastSize() {
        due.sentence("Terms", "the quotient P / Q is above 0");
        RayField f = new RayField();
        f.put(-2000, -2000, 2000, 1999);
        f.ray(-1999, -1999, 20000, -20000);
        due.is("P 1, Q 159980000", f.met(), 1);
        due.is("times(0, 1000000)", f.times(0, 1000000), 0);
        due.is("within(0, 1)", f.within(0, 1), 0);
        due.is("within(0, 1000000)", f.within(0, 1000000), 0);
        due.is("within(1, 1000000)", f.within(1, 1000000), 1);
        f.ray(-1999, -1999, -20000, 20000);
        due.is("P 1, Q -159980000", f.met(), 0);
        f.turn(0);
        due.is("P -1, Q 159980000", f.met(), 0);
        f.ray(-1999, -1999, 20000, -20000);
        due.is("P -1, Q -159980000", f.met(), 1);
    }

    private static void orderOfR() {
        due.sentence("Terms", "MET WALLS come in the order of their R");
        RayField f = Fields.full();
        f.ray(0, 64, 0, -1);
        for (int i = 0; i < 64; i++) {
            due.is("from above, wall(" + i + ")", f.wall(i), 63 - i);
        }
        f.ray(0, -1, 0, 20000);
        for (int i = 0; i < 64; i++) {
            due.is("from below, wall(" + i + ")", f.wall(i), i);
        }
        f.take(30);
        f.put(-10, -100, 10, -100);
        f.ray(0, 4000, 0, -1);
        due.is("the first", f.wall(0), 63);
        due.is("before the gap", f.wall(32), 31);
        due.is("behind the gap", f.wall(33), 29);
        due.is("the last one but one", f.wall(62), 0);
        due.is("the last", f.wall(63), 30);
    }

    private static void orderOfRAtLittleDifference() {
        due.sentence("Terms", "MET WALLS come in the order of their R");
        RayField f = new RayField();
        f.put(1999, -2000, 2000, 2000);
        f.put(1998, -2000, 1999, 2000);
        f.ray(-4000, 0, 20000, 1);
        due.is("wall(0)", f.wall(0), 1);
        due.is("wall(1)", f.wall(1), 0);
        // Close to their common end the two are met 1 / 4000000 of a step apart.
        RayField sharp = new RayField();
        sharp.put(2000, 1999, 0, 0);
        sharp.put(0, 0, 1999, 1998);
        sharp.ray(4000, -4000, -3999, 4001);
        due.is("from below, met()", sharp.met(), 2);
        due.is("from below, wall(0)", sharp.wall(0), 1);
        due.is("from below, wall(1)", sharp.wall(1), 0);
        sharp.clear();
        sharp.put(0, 0, 1999, 1998);
        sharp.put(2000, 1999, 0, 0);
        sharp.ray(-3998, 4000, 3999, -3999);
        due.is("from above, met()", sharp.met(), 2);
        due.is("from above, wall(0)", sharp.wall(0), 1);
        due.is("from above, wall(1)", sharp.wall(1), 0);
    }

    private static void sameRByNumbers() {
        due.sentence("Terms", "of the same R by their numbers");
        RayField f = new RayField();
        due.is("one that is not met", f.put(500, -1, 500, -2), 0);
        due.is("to the common end", f.put(20, 0, 11, -10), 1);
        due.is("to the common end", f.put(20, -10, 20, 0), 2);
        due.is("to the common end", f.put(2000, -2000, 20, 0), 3);
        due.is("before the common end", f.put(10, -10, 10, 10), 4);
        due.is("to the common end", f.put(20, 0, 30, -1), 5);
        for (int scale : new int[] {1, 7, 20000}) {
            f.ray(0, 0, scale, 0);
            due.is("met()", f.met(), 5);
            due.is("the nearest", f.wall(0), 4);
            due.is("the first of the same R", f.wall(1), 1);
            due.is("the second of the same R", f.wall(2), 2);
            due.is("the third of the same R", f.wall(3), 3);
            due.is("the fourth of the same R", f.wall(4), 5);
        }
        f.turn(2);
        f.turn(5);
        due.is("turned, the second of the same R", f.wall(2), 2);
        due.is("turned, the fourth of the same R", f.wall(4), 5);
        f.take(0);
        due.is("put later, with a lower number", f.put(25, -9, 20, 0), 0);
        due.is("it is the first of the same R", f.wall(1), 0);
        due.is("and the second", f.wall(2), 1);
    }

    private static void metFromItsRight() {
        due.sentence("Terms", "from its right if P is below 0, else from its left");
        RayField f = new RayField();
        f.put(-2000, -2000, 2000, 1999);
        f.ray(-1999, -1999, 1, -1);
        due.is("P 1", f.isRight(0), false);
        f.ray(1999, 1998, -1, 1);
        due.is("P -1", f.isRight(0), true);
        f.turn(0);
        due.is("P 1, turned", f.isRight(0), false);
        f.ray(-1999, -1999, 1, -1);
        due.is("P -1, turned", f.isRight(0), true);
        RayField far = new RayField();
        far.put(2000, -2000, -2000, 2000);
        far.ray(-4000, -4000, 1, 1);
        due.is("P greatest", far.isRight(0), false);
        far.turn(0);
        due.is("P least", far.isRight(0), true);
        due.is("met()", far.met(), 1);
    }

    private static void rayIsKept() {
        due.sentence("Terms", "THE RAY is kept until another one is told");
        RayField f = new RayField();
        f.ray(0, 0, 2, 0);
        f.put(10, -10, 10, 10);
        due.is("through put", f.times(0, 1), 5);
        f.turn(0);
        due.is("through turn", f.times(0, 1), 5);
        f.take(0);
        f.put(20, -10, 20, 10);
        due.is("through take", f.times(0, 1), 10);
        f.clear();
        f.put(30, -10, 30, 10);
        due.is("through clear", f.times(0, 1), 15);
        f.ray(0, 0, 0, 0);
        due.is("through a refused ray", f.times(0, 1), 15);
        f.ray(0, 0, 3, 0);
        due.is("another one", f.times(0, 1), 10);
        f.ray(0, 0, -3, 0);
        due.is("the other way", f.met(), 0);
    }

    private static void changesWithTheField() {
        due.sentence("Terms", "what it meets changes with the FIELD");
        RayField f = new RayField();
        f.ray(0, -1, 0, 1);
        for (int n = 0; n < 64; n++) {
            due.is("met()", f.met(), n);
            f.put(-10, 63 - n, 10, 63 - n);
            due.is("the first is the last that came", f.wall(0), n);
        }
        due.is("met() of a full field", f.met(), 64);
        f.put(-10, 100, 10, 100);
        due.is("met() after a refused put", f.met(), 64);
        for (int n = 0; n < 64; n++) {
            f.take(n);
            due.is("met()", f.met(), 63 - n);
        }
        due.is("wall(0)", f.wall(0), -1);
    }

    private static void atFirstThereIsNone() {
        due.sentence("Terms", "At first there is none");
        RayField f = Fields.full();
        due.is("look(2)", f.look(2), 0);
        due.is("met()", f.met(), -1);
        for (int i = 0; i < 64; i++) {
            due.is("wall(" + i + ")", f.wall(i), -1);
        }
    }

    private static void rayInRange() {
        due.sentence("Terms", "E (-4000 .. 4000 each), D (-20000 .. 20000 each)");
        int[] ray = {3, 5, 8, 13};
        for (int at = 0; at < 4; at++) {
            int most = at < 2 ? 4000 : 20000;
            for (int edge : new int[] {-most, 1 - most, 0, most - 1, most}) {
                int[] r = Fields.with(ray, at, edge);
                RayField f = new RayField();
                due.is("ray " + Arrays.toString(r), Fields.ray(f, r), true);
                due.is("look(2)", f.look(2), 1);
            }
        }
        RayField f = new RayField();
        f.put(-1, 1, 1, -1);
        due.is("from a corner", f.ray(-4000, -4000, 20000, 20000), true);
        due.is("met()", f.met(), 1);
        due.is("from the other corner", f.ray(4000, 4000, -20000, -20000), true);
        due.is("met()", f.met(), 1);
    }

    private static void rayOneOfTheseIsNone() {
        due.sentence("Promise 6", "false if one of these is none");
        int[] ray = {3, 5, 8, 13};
        RayField f = new RayField();
        for (int at = 0; at < 4; at++) {
            int most = at < 2 ? 4000 : 20000;
            for (int none : Fields.outside(-most, most)) {
                int[] r = Fields.with(ray, at, none);
                due.is("ray " + Arrays.toString(r), Fields.ray(f, r), false);
            }
        }
        due.is("E as far as D may go", f.ray(20000, 0, 1, 0), false);
        due.is("E as far as D may go", f.ray(0, -20000, 1, 0), false);
        due.is("look(2)", f.look(2), 0);
        due.is("met()", f.met(), -1);
    }

    private static void rayWithoutDirection() {
        due.sentence("Promise 6", "or D is (0, 0)");
        RayField f = new RayField();
        due.is("D is (0, 0)", f.ray(0, 0, 0, 0), false);
        due.is("D is (0, 0), from a corner", f.ray(4000, -4000, 0, 0), false);
        due.is("D is (0, 0), from no place", f.ray(4001, 0, 0, 0), false);
        due.is("look(2)", f.look(2), 0);
        due.is("dx alone is 0", f.ray(0, 0, 0, -1), true);
        due.is("dy alone is 0", f.ray(0, 0, -1, 0), true);
        due.is("their sum is 0", f.ray(0, 0, 1, -1), true);
        due.is("look(2)", f.look(2), 1);
    }

    private static void metWithoutOne() {
        due.sentence("Promise 7", "NONE without one");
        RayField f = new RayField();
        due.is("met() of a new object", f.met(), -1);
        f.put(10, -10, 10, 10);
        due.is("met() with a wall", f.met(), -1);
        f.ray(0, 0, 20001, 0);
        due.is("met() after a refused ray", f.met(), -1);
        f.clear();
        due.is("met() after clear", f.met(), -1);
        f.ray(0, 0, 1, 0);
        due.is("met() with one", f.met(), 0);
    }

    private static void metFrom0To64() {
        due.sentence("Promise 7", "How many WALLS THE RAY MEETS");
        RayField f = Fields.full();
        f.ray(11, -1, 0, 1);
        due.is("none", f.met(), 0);
        f.ray(-11, 63, 1, 0);
        due.is("none along the last one", f.met(), 0);
        f.ray(0, 64, 0, -1);
        due.is("all from above", f.met(), 64);
        f.ray(0, 63, 0, -1);
        due.is("all but the one that it starts on", f.met(), 63);
        f.ray(0, 0, 0, -1);
        due.is("none from the first one on", f.met(), 0);
        f.ray(10, 64, 0, -1);
        due.is("their B on the line, A below 0", f.met(), 64);
        f.ray(-10, 64, 0, -1);
        due.is("their A on the line, B above 0", f.met(), 0);
    }

    private static void wallNoneSuch() {
        due.sentence("Promise 8", "from 0 on; NONE if there is none such");
        RayField f = allFromTheRight();
        due.is("wall(0)", f.wall(0), 0);
        due.is("wall(63)", f.wall(63), 63);
        for (int none : Fields.NO_NUMBERS) {
            due.is("wall(" + none + ")", f.wall(none), -1);
        }
        f.take(63);
        due.is("wall(62) of 63", f.wall(62), 62);
        due.is("wall(63) of 63", f.wall(63), -1);
        f.ray(0, -1, 0, -1);
        due.is("wall(0) of 0", f.wall(0), -1);
        due.is("wall(0) without a ray", Fields.full().wall(0), -1);
    }

    private static void isRightNoneSuch() {
        due.sentence("Promise 9", "false if there is none such");
        RayField f = allFromTheRight();
        due.is("isRight(0)", f.isRight(0), true);
        due.is("isRight(63)", f.isRight(63), true);
        for (int none : Fields.NO_NUMBERS) {
            due.is("isRight(" + none + ")", f.isRight(none), false);
        }
        f.take(63);
        due.is("isRight(62) of 63", f.isRight(62), true);
        due.is("isRight(63) of 63", f.isRight(63), false);
        f.clear();
        due.is("isRight(0) of 0", f.isRight(0), false);
        due.is("isRight(0) without a ray", Fields.full().isRight(0), false);
    }

    /** A full field and a ray that meets all of it, number n as the n-th and from its right. */
    private static RayField allFromTheRight() {
        RayField field = Fields.full();
        field.ray(0, -1, 0, 1);
        return field;
    }

    private static void timesRoundedDown() {
        due.sentence("Promise 10", "rounded down");
        RayField f = new RayField();
        f.put(10, -10, 10, 10);
        f.ray(0, 0, 3, 0);
        for (boolean turned : new boolean[] {false, true}) {
            due.is("10 / 3, turned " + turned, f.times(0, 1), 3);
            due.is("20 / 3, turned " + turned, f.times(0, 2), 6);
            due.is("30 / 3, turned " + turned, f.times(0, 3), 10);
            due.is("9999990 / 3, turned " + turned, f.times(0, 999999), 3333330);
            due.is("10000000 / 3, turned " + turned, f.times(0, 1000000), 3333333);
            f.turn(0);
        }
        f.ray(9, 0, 20000, 0);
        due.is("19999 / 20000", f.times(0, 19999), 0);
        due.is("20000 / 20000", f.times(0, 20000), 1);
        due.is("39999 / 20000", f.times(0, 39999), 1);
    }

    private static void timesInRange() {
        due.sentence("Promise 10", "for n 0 .. 1000000");
        RayField f = new RayField();
        f.put(10, -10, 10, 10);
        f.ray(0, 0, 1, 0);
        due.is("times(0, 0)", f.times(0, 0), 0);
        due.is("times(0, 1)", f.times(0, 1), 10);
        due.is("times(0, 999999)", f.times(0, 999999), 9999990);
        due.is("times(0, 1000000)", f.times(0, 1000000), 10000000);
    }

    private static void timesGreatest() {
        due.sentence("Promise 10", "n times R");
        RayField f = new RayField();
        f.put(2000, 2000, 2000, -2000);
        f.ray(-4000, 0, 1, 0);
        due.is("R 6000", f.times(0, 1000000), 6000000000L);
        f.ray(-4000, -4000, 1, 1);
        due.is("R 6000, to an end", f.times(0, 1000000), 6000000000L);
        f.ray(-4000, 0, 20000, 1);
        due.is("R 3 / 10", f.times(0, 1000000), 300000);
        RayField slanted = new RayField();
        slanted.put(2000, -2000, -2000, 2000);
        slanted.ray(-4000, -4000, 1, 1);
        due.is("P 32000000, Q 8000", slanted.times(0, 1000000), 4000000000L);
        slanted.ray(-4000, -4000, 20000, 20000);
        due.is("P 32000000, Q 160000000", slanted.times(0, 1000000), 200000);
        slanted.ray(-4000, -4000, 19999, 20000);
        due.is("P 32000000, Q 159996000", slanted.times(0, 1000000), 200005);
    }

    private static void timesNoneSuch() {
        due.sentence("Promise 10", "NONE if there is none such");
        RayField f = allFromTheRight();
        due.is("times(0, 1)", f.times(0, 1), 1);
        due.is("times(63, 1)", f.times(63, 1), 64);
        for (int none : Fields.NO_NUMBERS) {
            due.is("times(" + none + ", 1)", f.times(none, 1), -1);
            due.is("times(" + none + ", 0)", f.times(none, 0), -1);
        }
        f.take(63);
        due.is("times(63, 1) of 63", f.times(63, 1), -1);
        f.clear();
        due.is("times(0, 1) of 0", f.times(0, 1), -1);
        due.is("times(0, 1) without a ray", Fields.full().times(0, 1), -1);
    }

    private static void timesNoSuchN() {
        due.sentence("Promise 10", "or no such n");
        RayField f = allFromTheRight();
        for (int none : Fields.outside(0, 1000000)) {
            due.is("times(0, " + none + ")", f.times(0, none), -1);
            due.is("times(63, " + none + ")", f.times(63, none), -1);
            due.is("times(64, " + none + ")", f.times(64, none), -1);
        }
    }

    private static void alongFrom0To1024() {
        due.sentence("Promise 11", "1024 * a / (a - b)");
        RayField f = new RayField();
        f.put(10, 0, 10, -5);
        f.ray(0, 0, 1, 0);
        due.is("at A", f.along(0), 0);
        f.turn(0);
        due.is("at B", f.along(0), 1024);
        f.clear();
        f.put(2000, -2000, 2000, 2000);
        f.ray(-4000, 0, 20000, 0);
        due.is("half of the longest", f.along(0), 512);
        f.ray(-4000, -4000, 20000, 20000);
        due.is("at B, which has b 0", f.along(0), 1024);
        f.ray(-4000, 4000, 20000, -20000);
        due.is("at A, which has a 0", f.met(), 0);
        f.turn(0);
        f.ray(-4000, -4000, 20000, 20000);
        due.is("at the A that was B", f.along(0), 0);
    }

    private static void alongRoundedDown() {
        due.sentence("Promise 11", "rounded down");
        RayField f = new RayField();
        f.put(10, -1999, 10, 1);
        f.put(20, 1, 20, -1999);
        f.ray(0, 0, 1, 0);
        due.is("1024 * 1999 / 2000", f.along(0), 1023);
        due.is("1024 * 1 / 2000", f.along(1), 0);
        f.turn(0);
        f.turn(1);
        due.is("1024 * 1 / 2000", f.along(0), 0);
        due.is("1024 * 1999 / 2000", f.along(1), 1023);
        f.clear();
        f.put(10, -1, 10, 2);
        f.put(20, 2, 20, -1);
        due.is("1024 / 3", f.along(0), 341);
        due.is("2048 / 3", f.along(1), 682);
        f.clear();
        f.put(10, -1, 10, 1023);
        f.put(20, 1023, 20, -1);
        due.is("1024 / 1024", f.along(0), 1);
        due.is("1024 * 1023 / 1024", f.along(1), 1023);
        f.clear();
        f.put(10, -1, 10, 1024);
        f.put(20, -1, 20, 1022);
        due.is("1024 / 1025", f.along(0), 0);
        due.is("1024 / 1023", f.along(1), 1);
    }

    private static void alongNoneSuch() {
        due.sentence("Promise 11", "NONE if there is none such");
        RayField f = allFromTheRight();
        due.is("along(0)", f.along(0), 512);
        due.is("along(63)", f.along(63), 512);
        for (int none : Fields.NO_NUMBERS) {
            due.is("along(" + none + ")", f.along(none), -1);
        }
        f.take(63);
        due.is("along(63) of 63", f.along(63), -1);
        f.clear();
        due.is("along(0) of 0", f.along(0), -1);
        due.is("along(0) without a ray", Fields.full().along(0), -1);
    }

    private static void withinAtMost() {
        due.sentence("Promise 12", "an R of at most n / d");
        RayField f = new RayField();
        f.put(10, -10, 10, 10);
        f.put(20, 10, 20, -10);
        f.ray(0, 0, 3, 0);
        due.is("just 10 / 3", f.within(10, 3), 1);
        due.is("just 10 / 3", f.within(1000000, 300000), 1);
        due.is("just below it", f.within(999999, 300000), 0);
        due.is("just below it", f.within(999999, 300001), 0);
        due.is("just above it", f.within(999999, 299999), 1);
        due.is("just 20 / 3", f.within(20, 3), 2);
        due.is("just below it", f.within(999999, 150000), 1);
        RayField far = new RayField();
        far.put(2000, -2000, 2000, 2000);
        far.ray(-4000, 0, 1, 0);
        due.is("just 6000", far.within(6000, 1), 1);
        due.is("just 6000", far.within(996000, 166), 1);
        due.is("just below it", far.within(995999, 166), 0);
        due.is("5999", far.within(5999, 1), 0);
        withinAtMostOfGreatNumbers();
        RayField full = allFromTheRight();
        for (int n = 0; n <= 64; n++) {
            due.is("within(" + n + ", 1)", full.within(n, 1), n);
            due.is("within(" + 15625 * n + ", 15625)", full.within(15625 * n, 15625), n);
        }
    }

    private static void withinAtMostOfGreatNumbers() {
        RayField f = new RayField();
        f.put(2000, -2000, -2000, 2000);
        f.ray(-4000, -4000, 20000, 20000);
        due.is("P 32000000, Q 160000000, just 1 / 5", f.within(1, 5), 1);
        due.is("just 1 / 5", f.within(200000, 1000000), 1);
        for (int n = 199999; n > 0; n -= 10007) {
            due.is("within(" + n + ", 1000000)", f.within(n, 1000000), 0);
            due.is("within(200000, " + (1000000 - n) + ")", f.within(200000, 1000000 - n), 1);
        }
        for (int n = 200001; n <= 1000000; n += 10007) {
            due.is("within(" + n + ", 1000000)", f.within(n, 1000000), 1);
        }
    }

    private static void withinInRange() {
        due.sentence("Promise 12", "for n 0 .. 1000000, d 1 .. 1000000");
        RayField f = allFromTheRight();
        due.is("within(0, 1)", f.within(0, 1), 0);
        due.is("within(0, 1000000)", f.within(0, 1000000), 0);
        due.is("within(1, 1)", f.within(1, 1), 1);
        due.is("within(1, 1000000)", f.within(1, 1000000), 0);
        due.is("within(999999, 1000000)", f.within(999999, 1000000), 0);
        due.is("within(1000000, 1000000)", f.within(1000000, 1000000), 1);
        due.is("within(1000000, 999999)", f.within(1000000, 999999), 1);
        due.is("within(1000000, 1)", f.within(1000000, 1), 64);
        f.clear();
        due.is("within(1000000, 1) of 0", f.within(1000000, 1), 0);
    }

    private static void withinWithoutARay() {
        due.sentence("Promise 12", "NONE without a RAY");
        RayField f = new RayField();
        due.is("of a new object", f.within(1, 1), -1);
        Fields.fill(f);
        due.is("of a full field", f.within(1000000, 1), -1);
        f.ray(0, 0, 0, 0);
        due.is("after a refused ray", f.within(0, 1), -1);
        due.is("with wrong numbers too", f.within(-1, 0), -1);
    }

    private static void withinOneOfTheseIsNone() {
        due.sentence("Promise 12", "NONE .. if one of these is none");
        RayField f = allFromTheRight();
        for (int none : Fields.outside(0, 1000000)) {
            due.is("within(" + none + ", 1)", f.within(none, 1), -1);
            due.is("within(" + none + ", 1000000)", f.within(none, 1000000), -1);
        }
        for (int none : Fields.outside(1, 1000000)) {
            due.is("within(1000000, " + none + ")", f.within(1000000, none), -1);
            due.is("within(0, " + none + ")", f.within(0, none), -1);
        }
        due.is("within(1, -1)", f.within(1, -1), -1);
        due.is("both below 0", f.within(-1, -1), -1);
        due.is("both too large", f.within(1000001, 1000001), -1);
        due.is("0 / 0", f.within(0, 0), -1);
    }
}
