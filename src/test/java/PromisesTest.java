/** Each promise of the document on ordinary inputs; FieldEdgesTest and RayEdgesTest have its edges. */
public final class PromisesTest {
    private static final Due due = new Due();

    public static void main(String[] args) {
        putAnswersNumbers();
        putRefusesWhatTouches();
        putAllowsCommonEnds();
        take();
        turn();
        clear();
        ray();
        metOrdinary();
        metAtTheEdges();
        metChangesWithTheField();
        wallInOrder();
        isRight();
        times();
        along();
        within();
        on();
        of();
        look();
        due.end();
    }

    private static void putAnswersNumbers() {
        due.promise("promise 2, numbers");
        RayField f = new RayField();
        due.is("first", f.put(0, 0, 10, 0), 0);
        due.is("second", f.put(0, 5, 10, 5), 1);
        due.is("third", f.put(0, 10, 10, 10), 2);
        due.is("take(1)", f.take(1), true);
        due.is("take(0)", f.take(0), true);
        due.is("the least free one", f.put(0, 20, 10, 20), 0);
        due.is("the next free one", f.put(0, 30, 10, 30), 1);
        due.is("behind all", f.put(0, 40, 10, 40), 3);
        due.is("from corner to corner", f.put(-2000, -2000, 2000, -2000), 4);
        due.is("the other corners", f.put(2000, 2000, -2000, 2000), 5);
        due.is("the place of one that has gone", f.put(0, 5, 10, 5), 6);
    }

    private static void putRefusesWhatTouches() {
        due.promise("promise 2, walls that touch");
        RayField f = new RayField();
        due.is("put", f.put(0, 0, 10, 10), 0);
        due.is("crosses at a whole place", f.put(0, 10, 10, 0), -1);
        due.is("crosses between whole places", f.put(5, 6, 6, 5), -1);
        due.is("its end amid the other", f.put(5, 5, 9, 0), -1);
        due.is("its other end amid the other", f.put(9, 0, 5, 5), -1);
        due.is("the other's end amid it", f.put(-5, 5, 5, -5), -1);
        due.is("the other's B amid it", f.put(5, 15, 15, 5), -1);
        due.is("the same", f.put(0, 0, 10, 10), -1);
        due.is("the same turned", f.put(10, 10, 0, 0), -1);
        due.is("a part of it", f.put(2, 2, 8, 8), -1);
        due.is("a part from an end on", f.put(0, 0, 5, 5), -1);
        due.is("more from an end on", f.put(10, 10, -5, -5), -1);
        due.is("more at both ends", f.put(-5, -5, 15, 15), -1);
        due.is("over one end", f.put(5, 5, 15, 15), -1);
        due.is("look(0)", f.look(0), 1);
        due.is("beside it", f.put(0, 1, 10, 11), 1);
        due.is("short of it", f.put(9, 0, 6, 5), 2);
        due.is("behind it on its line", f.put(11, 11, 20, 20), 3);
        due.is("before it on its line", f.put(-2, -2, -1, -1), 4);
        due.is("upright", f.put(100, 0, 100, 10), 5);
        due.is("over an upright one", f.put(100, 9, 100, 20), -1);
        due.is("level", f.put(200, 0, 210, 0), 6);
        due.is("over a level one", f.put(209, 0, 220, 0), -1);
        RayField wide = new RayField();
        due.is("long", wide.put(-2000, -2000, 2000, 1999), 0);
        due.is("crosses a long one close to its end", wide.put(1999, 2000, 2000, 1998), -1);
        due.is("just over a long one", wide.put(1999, 1999, 2000, 2000), 1);
    }

    private static void putAllowsCommonEnds() {
        due.promise("promise 2, common ends");
        RayField f = new RayField();
        due.is("put", f.put(0, 0, 10, 0), 0);
        due.is("A at its B", f.put(10, 0, 10, 10), 1);
        due.is("B at its A", f.put(0, 10, 0, 0), 2);
        due.is("A at its A", f.put(0, 0, 5, 5), 3);
        due.is("B at its B", f.put(20, 5, 10, 0), 4);
        due.is("goes on in its line", f.put(10, 0, 20, 0), 5);
        due.is("goes on before it", f.put(-10, 0, 0, 0), 6);
        due.is("goes on upright", f.put(10, 20, 10, 10), 7);
        due.is("ends with two others", f.put(10, 10, 0, 10), 8);
        due.is("a common end, but a cross elsewhere", f.put(0, 0, 11, 5), -1);
    }

    private static void take() {
        due.promise("promise 3");
        RayField f = new RayField();
        f.put(0, 0, 10, 0);
        f.put(0, 5, 10, 5);
        due.is("take(2)", f.take(2), false);
        due.is("look(0)", f.look(0), 2);
        due.is("take(0)", f.take(0), true);
        due.is("take(0) again", f.take(0), false);
        due.is("look(0)", f.look(0), 1);
        due.is("of(0, 0)", f.of(0, 0), 100000);
        due.is("of(1, 1) stays", f.of(1, 1), 5);
        due.is("on(5, 0)", f.on(5, 0), -1);
        due.is("through where it was", f.put(5, -5, 5, 4), 0);
    }

    private static void turn() {
        due.promise("promise 4");
        RayField f = new RayField();
        f.put(1, 2, 3, 5);
        due.is("turn(1)", f.turn(1), false);
        due.is("turn(0)", f.turn(0), true);
        due.is("of(0, 0)", f.of(0, 0), 3);
        due.is("of(0, 1)", f.of(0, 1), 5);
        due.is("of(0, 2)", f.of(0, 2), 1);
        due.is("of(0, 3)", f.of(0, 3), 2);
        due.is("turn(0)", f.turn(0), true);
        due.is("of(0, 0)", f.of(0, 0), 1);
        due.is("of(0, 3)", f.of(0, 3), 5);
        due.is("look(0)", f.look(0), 1);
        f.take(0);
        due.is("turn(0) of none", f.turn(0), false);
    }

    private static void clear() {
        due.promise("promise 5");
        RayField f = Fields.full();
        f.ray(0, -10, 1, 100);
        due.is("met()", f.met() > 0, true);
        f.clear();
        due.is("look(0)", f.look(0), 0);
        due.is("look(1)", f.look(1), 0);
        due.is("the ray stays", f.look(2), 1);
        due.is("met()", f.met(), 0);
        due.is("wall(0)", f.wall(0), -1);
        due.is("within(1, 1)", f.within(1, 1), 0);
        due.is("take(5)", f.take(5), false);
        due.is("put", f.put(-10, 10, 10, 10), 0);
        due.is("met()", f.met(), 1);
        RayField empty = new RayField();
        empty.clear();
        due.is("look(0)", empty.look(0), 0);
        due.is("look(2)", empty.look(2), 0);
        due.is("met()", empty.met(), -1);
    }

    private static void ray() {
        due.promise("promise 6");
        RayField f = new RayField();
        int[] noPlace = {-4001, 4001, Integer.MIN_VALUE, Integer.MAX_VALUE};
        int[] noStep = {-20001, 20001, Integer.MIN_VALUE, Integer.MAX_VALUE};
        for (int bad : noPlace) {
            due.is("x " + bad, f.ray(bad, 0, 1, 0), false);
            due.is("y " + bad, f.ray(0, bad, 1, 0), false);
        }
        for (int bad : noStep) {
            due.is("dx " + bad, f.ray(0, 0, bad, 1), false);
            due.is("dy " + bad, f.ray(0, 0, 1, bad), false);
        }
        due.is("no direction", f.ray(5, 5, 0, 0), false);
        due.is("look(2)", f.look(2), 0);
        due.is("edges", f.ray(-4000, 4000, 20000, -20000), true);
        due.is("look(2)", f.look(2), 1);
        due.is("the other edges", f.ray(4000, -4000, -20000, 20000), true);
        due.is("met()", f.met(), 0);
        f.put(10, -10, 10, 10);
        due.is("ray", f.ray(0, 0, 2, 0), true);
        due.is("times(0, 1)", f.times(0, 1), 5);
        due.is("no direction", f.ray(5, 0, 0, 0), false);
        due.is("no place", f.ray(4001, 0, 1, 0), false);
        due.is("the old one stays", f.times(0, 1), 5);
        due.is("only dy", f.ray(10, -20, 0, 1), true);
        due.is("another one", f.met(), 0);
    }

    private static void metOrdinary() {
        due.promise("promise 7");
        RayField f = new RayField();
        due.is("met() without a ray", f.met(), -1);
        f.put(10, -10, 10, 10);
        f.put(20, 10, 20, -10);
        f.put(-10, -10, -10, 10);
        f.put(30, 1, 30, 10);
        due.is("met() without a ray", f.met(), -1);
        f.ray(0, 0, 1, 0);
        due.is("two before, one behind, one beside", f.met(), 2);
        f.ray(0, 0, -1, 0);
        due.is("the one behind", f.met(), 1);
        f.ray(0, 0, 0, 1);
        due.is("none of them", f.met(), 0);
        f.ray(0, 0, 20000, 4000);
        due.is("three of them", f.met(), 3);
    }

    private static void metAtTheEdges() {
        due.promise("promise 7, edges");
        RayField f = new RayField();
        f.put(10, 0, 10, 10);
        f.put(20, -10, 20, 0);
        f.put(30, 0, 40, 0);
        f.ray(0, 0, 1, 0);
        due.is("an end on the line, the other one below 0", f.met(), 1);
        due.is("wall(0)", f.wall(0), 1);
        f.turn(0);
        f.turn(1);
        due.is("likewise with the ends exchanged", f.met(), 1);
        due.is("wall(0)", f.wall(0), 1);
        f.ray(50, 0, -1, 0);
        due.is("from the other way", f.met(), 1);
        due.is("wall(0)", f.wall(0), 0);
        f.ray(20, -5, 1, 0);
        due.is("from a place on the wall", f.met(), 0);
        f.ray(20, -5, -1, 0);
        due.is("from there the other way", f.met(), 0);
        f.ray(20, 0, 1, 0);
        due.is("from an end of the wall", f.met(), 0);
        f.ray(35, 0, 1, 0);
        due.is("in the line of a wall", f.met(), 0);
        f.ray(19, -5, 1, 0);
        due.is("from close to the wall", f.met(), 1);
        f.ray(21, -5, 1, 0);
        due.is("from close behind it", f.met(), 0);
    }

    private static void metChangesWithTheField() {
        due.promise("promise 7, as the field changes");
        RayField f = new RayField();
        f.ray(0, 0, 1, 0);
        due.is("met()", f.met(), 0);
        f.put(20, -10, 20, 10);
        due.is("met() after put", f.met(), 1);
        f.put(10, -10, 10, 10);
        due.is("met() after put", f.met(), 2);
        due.is("wall(0)", f.wall(0), 1);
        f.put(10, 0, 20, 0);
        due.is("met() after a refused put", f.met(), 2);
        f.turn(1);
        due.is("met() after turn", f.met(), 2);
        due.is("isRight(0)", f.isRight(0), true);
        f.take(1);
        due.is("met() after take", f.met(), 1);
        due.is("wall(0)", f.wall(0), 0);
        f.clear();
        due.is("met() after clear", f.met(), 0);
    }

    private static void wallInOrder() {
        due.promise("promise 8");
        RayField f = new RayField();
        f.put(30, -10, 30, 10);
        f.put(10, -10, 10, 10);
        f.put(20, -10, 20, 10);
        due.is("wall(0) without a ray", f.wall(0), -1);
        f.ray(0, 0, 3, 0);
        due.is("wall(0)", f.wall(0), 1);
        due.is("wall(1)", f.wall(1), 2);
        due.is("wall(2)", f.wall(2), 0);
        due.is("wall(3)", f.wall(3), -1);
        RayField ends = new RayField();
        ends.put(10, 0, 10, -10);
        ends.put(5, -5, 10, 0);
        ends.put(15, -5, 10, 0);
        ends.ray(0, 0, 7, 0);
        due.is("three of the same R", ends.met(), 3);
        due.is("by numbers", ends.wall(0), 0);
        due.is("by numbers", ends.wall(1), 1);
        due.is("by numbers", ends.wall(2), 2);
        ends.take(0);
        ends.put(9, -1, 9, 1);
        due.is("a refused put", ends.met(), 2);
        ends.put(10, -10, 10, 0);
        due.is("the number, not the time, orders", ends.wall(0), 0);
        RayField close = new RayField();
        close.put(1999, -2000, 2000, 2000);
        close.put(1998, -2000, 1999, 2000);
        close.ray(-4000, 0, 20000, 1);
        due.is("R of little difference", close.wall(0), 1);
        due.is("R of little difference", close.wall(1), 0);
        RayField all = Fields.full();
        all.ray(5, 64, 0, -1);
        due.is("all 64", all.met(), 64);
        for (int i = 0; i < 64; i++) {
            due.is("wall(" + i + ")", all.wall(i), 63 - i);
        }
        due.is("wall(64)", all.wall(64), -1);
    }

    private static void isRight() {
        due.promise("promise 9");
        RayField f = new RayField();
        f.put(10, -10, 10, 10);
        f.put(20, 10, 20, -10);
        due.is("isRight(0) without a ray", f.isRight(0), false);
        f.ray(0, 0, 1, 0);
        due.is("isRight(0)", f.isRight(0), false);
        due.is("isRight(1)", f.isRight(1), true);
        due.is("isRight(2)", f.isRight(2), false);
        f.turn(0);
        f.turn(1);
        due.is("isRight(0) turned", f.isRight(0), true);
        due.is("isRight(1) turned", f.isRight(1), false);
        f.ray(30, 0, -1, 0);
        due.is("isRight(0) the other way", f.isRight(0), true);
        due.is("isRight(1) the other way", f.isRight(1), false);
    }

    private static void times() {
        due.promise("promise 10");
        RayField f = new RayField();
        f.put(10, -10, 10, 10);
        due.is("times(0, 1) without a ray", f.times(0, 1), -1);
        f.ray(0, 0, 3, 0);
        due.is("times(0, 0)", f.times(0, 0), 0);
        due.is("times(0, 1)", f.times(0, 1), 3);
        due.is("times(0, 2)", f.times(0, 2), 6);
        due.is("times(0, 3)", f.times(0, 3), 10);
        due.is("times(0, 1000000)", f.times(0, 1000000), 3333333);
        due.is("times(0, 1000001)", f.times(0, 1000001), -1);
        due.is("times(0, -1)", f.times(0, -1), -1);
        due.is("times(0, least)", f.times(0, Integer.MIN_VALUE), -1);
        due.is("times(0, most)", f.times(0, Integer.MAX_VALUE), -1);
        due.is("times(1, 1)", f.times(1, 1), -1);
        f.turn(0);
        due.is("times(0, 2) turned", f.times(0, 2), 6);
        f.put(-2000, 100, 2000, 101);
        f.ray(-4000, 100, 1, 0);
        due.is("its A on the line, none below 0", f.met(), 0);
        f.turn(1);
        f.ray(4000, 101, -1, 0);
        due.is("along a flat wall to its end", f.met(), 0);
        f.put(-2000, 201, 2000, 200);
        f.ray(-4000, 201, 1, 0);
        due.is("its A on the line, B below 0", f.met(), 1);
        due.is("times(0, 1000000)", f.times(0, 1000000), 2000000000L);
        f.put(2000, 300, -2000, 299);
        f.ray(-4000, 300, 1, 0);
        due.is("more than an int", f.times(0, 1000000), 6000000000L);
    }

    private static void along() {
        due.promise("promise 11");
        RayField f = new RayField();
        f.put(10, -1, 10, 2);
        due.is("along(0) without a ray", f.along(0), -1);
        f.ray(0, 0, 1, 0);
        due.is("along(0), a third", f.along(0), 341);
        due.is("along(1)", f.along(1), -1);
        f.turn(0);
        due.is("along(0), two thirds", f.along(0), 682);
        f.put(20, 0, 20, -5);
        due.is("at A", f.along(1), 0);
        f.turn(1);
        due.is("at B", f.along(1), 1024);
        f.put(30, 1000, 30, -2000);
        due.is("1024 / 3", f.along(2), 341);
        f.ray(4000, 4000, -20000, -20000);
        due.is("through the corner", f.met(), 1);
        due.is("wall(0)", f.wall(0), 2);
        due.is("1024 * 970 / 3000", f.along(0), 331);
    }

    private static void within() {
        due.promise("promise 12");
        RayField f = new RayField();
        f.put(10, -10, 10, 10);
        f.put(20, -10, 20, 10);
        f.put(30, -10, 30, 10);
        due.is("within(1, 1) without a ray", f.within(1, 1), -1);
        f.ray(0, 0, 3, 0);
        due.is("within(0, 1)", f.within(0, 1), 0);
        due.is("within(3, 1)", f.within(3, 1), 0);
        due.is("within(10, 3)", f.within(10, 3), 1);
        due.is("within(9, 3)", f.within(9, 3), 0);
        due.is("just under", f.within(999999, 300000), 0);
        due.is("just at", f.within(1000000, 300000), 1);
        due.is("within(20, 3)", f.within(20, 3), 2);
        due.is("within(10, 1)", f.within(10, 1), 3);
        due.is("within(1000000, 1)", f.within(1000000, 1), 3);
        due.is("within(1000000, 1000000)", f.within(1000000, 1000000), 0);
        due.is("within(-1, 1)", f.within(-1, 1), -1);
        due.is("within(1000001, 1)", f.within(1000001, 1), -1);
        due.is("within(1, 0)", f.within(1, 0), -1);
        due.is("within(1, -1)", f.within(1, -1), -1);
        due.is("within(1, 1000001)", f.within(1, 1000001), -1);
        due.is("within(least, most)", f.within(Integer.MIN_VALUE, Integer.MAX_VALUE), -1);
        due.is("within(most, least)", f.within(Integer.MAX_VALUE, Integer.MIN_VALUE), -1);
        f.ray(0, 0, 0, 1);
        due.is("none met", f.within(1000000, 1), 0);
    }

    private static void on() {
        due.promise("promise 13");
        RayField f = new RayField();
        f.put(0, 0, 10, 5);
        f.put(10, 5, 10, 20);
        f.put(-2000, 2000, 2000, 2000);
        due.is("A", f.on(0, 0), 0);
        due.is("amid", f.on(4, 2), 0);
        due.is("beside", f.on(4, 3), -1);
        due.is("beside", f.on(3, 1), -1);
        due.is("an end of both, the least", f.on(10, 5), 0);
        due.is("amid the other", f.on(10, 6), 1);
        due.is("B", f.on(10, 20), 1);
        due.is("behind B", f.on(10, 21), -1);
        due.is("before A on its line", f.on(-2, -1), -1);
        due.is("behind B on its line", f.on(12, 6), -1);
        due.is("the corner", f.on(-2000, 2000), 2);
        due.is("behind the corner", f.on(-2001, 2000), -1);
        due.is("far off", f.on(-4000, 4000), -1);
        int[] none = {-4001, 4001, Integer.MIN_VALUE, Integer.MAX_VALUE};
        for (int bad : none) {
            due.is("x " + bad, f.on(bad, 0), -1);
            due.is("y " + bad, f.on(0, bad), -1);
        }
        f.take(0);
        due.is("the one that is left", f.on(10, 5), 1);
        f.put(10, 5, 30, 5);
        due.is("the least again", f.on(10, 5), 0);
        due.is("not there any more", f.on(4, 2), -1);
    }

    private static void of() {
        due.promise("promise 14");
        RayField f = new RayField();
        f.put(-2000, 1, 2, 2000);
        due.is("of(0, 0)", f.of(0, 0), -2000);
        due.is("of(0, 1)", f.of(0, 1), 1);
        due.is("of(0, 2)", f.of(0, 2), 2);
        due.is("of(0, 3)", f.of(0, 3), 2000);
        due.is("of(0, 4)", f.of(0, 4), 100000);
        due.is("of(0, -1)", f.of(0, -1), 100000);
        due.is("of(0, least)", f.of(0, Integer.MIN_VALUE), 100000);
        due.is("of(0, most)", f.of(0, Integer.MAX_VALUE), 100000);
        due.is("of(1, 0)", f.of(1, 0), 100000);
    }

    private static void look() {
        due.promise("promise 15");
        RayField f = new RayField();
        due.is("look(-1)", f.look(-1), -1);
        due.is("look(3)", f.look(3), -1);
        due.is("look(least)", f.look(Integer.MIN_VALUE), -1);
        due.is("look(most)", f.look(Integer.MAX_VALUE), -1);
        f.put(0, 0, 1, 0);
        f.put(0, 1, 1, 1);
        f.put(0, 2, 1, 2);
        due.is("look(0)", f.look(0), 3);
        due.is("look(1)", f.look(1), 3);
        f.take(1);
        due.is("look(0)", f.look(0), 2);
        due.is("look(1)", f.look(1), 1);
        due.is("look(2)", f.look(2), 0);
        f.ray(0, 0, 1, 0);
        due.is("look(2)", f.look(2), 1);
        RayField full = Fields.full();
        due.is("look(0)", full.look(0), 64);
        due.is("look(1)", full.look(1), -1);
        full.take(40);
        due.is("look(1)", full.look(1), 40);
    }
}
