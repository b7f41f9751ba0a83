import java.util.ArrayList;
import java.util.List;
import java.util.function.Consumer;
import java.util.function.ToLongFunction;

/**
 * 'What answers false or NONE changes nothing': each call that is refused is made on one of two twins,
 * and afterwards both answer all that can be asked alike.
 */
public final class RefusedTest {
    /** So many questions to one pair, that no object comes to more than 512 calls. */
    private static final int QUESTIONS_A_PAIR = 300;
    private static final Due due = new Due();
    private static final List<ToLongFunction<RayField>> QUESTIONS = questions();

    public static void main(String[] args) {
        Consumer<RayField> nothing = field -> { };
        refusedEverywhere("a new object", nothing);
        refusedEverywhere("a ray alone", field -> field.ray(-20, 1, 3, 0));
        refusedEverywhere("walls alone", RefusedTest::house);
        refusedEverywhere("walls and a ray", RefusedTest::houseAndRay);
        refusedEverywhere("a full field", RefusedTest::fullAndRay);
        refusedEverywhere("a cleared field", field -> {
            houseAndRay(field);
            field.clear();
        });
        refusedWithoutWalls();
        refusedWithoutARay();
        refusedForAClash();
        refusedInAFullField();
        refusedForAWallThatHasGone();
        refusedBehindTheMetOnes();
        due.end();
    }

    private static void house(RayField field) {
        field.put(10, -10, 10, 10);
        field.put(20, 10, 20, -10);
        field.put(10, 10, 20, 10);
        field.put(30, 0, 40, 7);
        field.put(-5, -5, 5, -5);
        field.take(3);
    }

    private static void houseAndRay(RayField field) {
        house(field);
        field.ray(-20, 1, 3, 0);
    }

    private static void fullAndRay(RayField field) {
        Fields.fill(field);
        field.ray(0, -1, 0, 1);
    }

    /** Calls that no field and no ray make right. */
    private static void refusedEverywhere(String state, Consumer<RayField> before) {
        due.sentence("Terms", "What answers false or NONE changes nothing");
        for (int none : Fields.outside(-2000, 2000)) {
            refused(state + ", put(" + none + ", ..)", before, f -> f.put(none, 50, 51, 52), -1);
            refused(state + ", put(.., " + none + ")", before, f -> f.put(50, 51, 52, none), -1);
        }
        refused(state + ", put of one place", before, f -> f.put(50, 51, 50, 51), -1);
        for (int none : Fields.NO_NUMBERS) {
            refused(state + ", take(" + none + ")", before, f -> bit(f.take(none)), 0);
            refused(state + ", turn(" + none + ")", before, f -> bit(f.turn(none)), 0);
            refused(state + ", wall(" + none + ")", before, f -> f.wall(none), -1);
            refused(state + ", isRight(" + none + ")", before, f -> bit(f.isRight(none)), 0);
            refused(state + ", times(" + none + ", 1)", before, f -> f.times(none, 1), -1);
            refused(state + ", along(" + none + ")", before, f -> f.along(none), -1);
            refused(state + ", of(" + none + ", 0)", before, f -> f.of(none, 0), 100000);
            refused(state + ", look(" + none + ")", before, f -> f.look(none), -1);
        }
        for (int none : Fields.outside(-4000, 4000)) {
            refused(state + ", ray(" + none + ", ..)", before, f -> bit(f.ray(none, 0, 1, 1)), 0);
            refused(state + ", on(" + none + ", 0)", before, f -> f.on(none, 0), -1);
        }
        for (int none : Fields.outside(-20000, 20000)) {
            refused(state + ", ray(.., " + none + ")", before, f -> bit(f.ray(0, 0, 1, none)), 0);
        }
        refused(state + ", ray with D (0, 0)", before, f -> bit(f.ray(7, 7, 0, 0)), 0);
        for (int none : Fields.outside(1, 1000000)) {
            refused(state + ", within(1, " + none + ")", before, f -> f.within(1, none), -1);
        }
        refused(state + ", within(-1, 1)", before, f -> f.within(-1, 1), -1);
        refused(state + ", times(0, -1)", before, f -> f.times(0, -1), -1);
        refused(state + ", times(0, 1000001)", before, f -> f.times(0, 1000001), -1);
        refused(state + ", of(0, 4)", before, f -> f.of(0, 4), 100000);
    }

    private static void refusedWithoutWalls() {
        due.sentence("Promises 3 and 4", "false if there is none such");
        Consumer<RayField> before = field -> field.ray(0, 0, 1, 0);
        refused("take(0)", before, f -> bit(f.take(0)), 0);
        refused("turn(0)", before, f -> bit(f.turn(0)), 0);
        refused("on(0, 0)", before, f -> f.on(0, 0), -1);
        refused("wall(0)", before, f -> f.wall(0), -1);
    }

    private static void refusedWithoutARay() {
        due.sentence("Promises 7 to 12", "NONE without one");
        refused("met()", RefusedTest::house, f -> f.met(), -1);
        refused("wall(0)", RefusedTest::house, f -> f.wall(0), -1);
        refused("isRight(0)", RefusedTest::house, f -> bit(f.isRight(0)), 0);
        refused("times(0, 1)", RefusedTest::house, f -> f.times(0, 1), -1);
        refused("along(0)", RefusedTest::house, f -> f.along(0), -1);
        refused("within(1, 1)", RefusedTest::house, f -> f.within(1, 1), -1);
    }

    private static void refusedForAClash() {
        due.sentence("Promise 2", "NONE if .. it would have a place in common with another one");
        refused("across number 0", RefusedTest::houseAndRay, f -> f.put(5, 0, 15, 0), -1);
        refused("across the last one", RefusedTest::houseAndRay, f -> f.put(0, 0, 0, -10), -1);
        refused("the same", RefusedTest::houseAndRay, f -> f.put(10, -10, 10, 10), -1);
        refused("the same, turned", RefusedTest::houseAndRay, f -> f.put(10, 10, 10, -10), -1);
        refused("an end amid another one", RefusedTest::houseAndRay, f -> f.put(20, 0, 25, 0), -1);
    }

    private static void refusedInAFullField() {
        due.sentence("Promise 2", "NONE if .. there are 64");
        refused("put", RefusedTest::fullAndRay, f -> f.put(-10, 100, 10, 100), -1);
        refused("put before all", RefusedTest::fullAndRay, f -> f.put(-10, -1, 10, -1), -1);
        refused("look(1)", RefusedTest::fullAndRay, f -> f.look(1), -1);
    }

    private static void refusedForAWallThatHasGone() {
        due.sentence("Promises 3 and 4", "false if there is none such");
        refused("take(3)", RefusedTest::houseAndRay, f -> bit(f.take(3)), 0);
        refused("turn(3)", RefusedTest::houseAndRay, f -> bit(f.turn(3)), 0);
        refused("of(3, 0)", RefusedTest::houseAndRay, f -> f.of(3, 0), 100000);
    }

    private static void refusedBehindTheMetOnes() {
        due.sentence("Promises 8 to 11", "NONE if there is none such");
        refused("wall(2)", RefusedTest::houseAndRay, f -> f.wall(2), -1);
        refused("isRight(2)", RefusedTest::houseAndRay, f -> bit(f.isRight(2)), 0);
        refused("times(2, 1)", RefusedTest::houseAndRay, f -> f.times(2, 1), -1);
        refused("along(2)", RefusedTest::houseAndRay, f -> f.along(2), -1);
    }

    private static void refused(
            String call, Consumer<RayField> before, ToLongFunction<RayField> asked, long answer) {
        for (int from = 0; from < QUESTIONS.size(); from += QUESTIONS_A_PAIR) {
            RayField field = new RayField();
            RayField twin = new RayField();
            before.accept(field);
            before.accept(twin);
            due.is(call, asked.applyAsLong(field), answer);
            for (int k = from; k < Math.min(QUESTIONS.size(), from + QUESTIONS_A_PAIR); k++) {
                ToLongFunction<RayField> question = QUESTIONS.get(k);
                due.is("after " + call + ", question " + k,
                    question.applyAsLong(field), question.applyAsLong(twin));
            }
        }
    }

    /** All that can be asked; the last ones change the field, to see what stood behind the answers. */
    private static List<ToLongFunction<RayField>> questions() {
        List<ToLongFunction<RayField>> all = new ArrayList<>();
        for (int w = 0; w < 64; w++) {
            for (int k = 0; k < 4; k++) {
                int wall = w;
                int what = k;
                all.add(f -> f.of(wall, what));
            }
        }
        for (int k = 0; k < 64; k++) {
            int i = k;
            all.add(f -> f.wall(i));
            all.add(f -> bit(f.isRight(i)));
            all.add(f -> f.times(i, 1000000));
            all.add(f -> f.along(i));
        }
        for (int k = 0; k < 3; k++) {
            int which = k;
            all.add(f -> f.look(which));
        }
        for (int k = 0; k < 60; k++) {
            int n = k;
            all.add(f -> f.within(n, 1));
        }
        all.add(f -> f.met());
        all.add(f -> f.on(10, 10));
        all.add(f -> f.on(50, 51));
        all.add(f -> f.put(500, -2000, 500, 2000));
        all.add(f -> f.met());
        all.add(f -> bit(f.take(0)));
        all.add(f -> f.put(600, -2000, 600, 2000));
        all.add(f -> f.met());
        all.add(f -> bit(f.ray(0, 0, 1, 0)));
        all.add(f -> f.met());
        return all;
    }

    private static long bit(boolean answer) {
        return answer ? 1 : 0;
    }
}
