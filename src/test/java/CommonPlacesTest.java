import java.util.Arrays;

/**
 * 'No two have a place in common, but an end of both': pairs of walls, each of them looked at in the
 * eight ways to lay it on the grid, with the ends of both exchanged, and with either put in first.
 */
public final class CommonPlacesTest {
    private static final Due due = new Due();

    public static void main(String[] args) {
        crossed();
        endAmidTheOther();
        onOneLineWithMoreThanAnEnd();
        longestThatCross();
        endOfBoth();
        onOneLineEndToEnd();
        apart();
        closeToALongOne();
        due.end();
    }

    private static void crossed() {
        due.sentence("Promise 2", "a place in common");
        clash("at a whole place", 0, 0, 10, 10, 0, 10, 10, 0);
        clash("between whole places", 0, 0, 3, 1, 1, 1, 2, 0);
        clash("in the least square", 0, 0, 1, 1, 0, 1, 1, 0);
        clash("level and upright", -5, 0, 5, 0, 0, -5, 0, 5);
        clash("close to an end of both", 0, 0, 10, 9, 9, 9, 10, 8);
    }

    private static void endAmidTheOther() {
        due.sentence("Promise 2", "a place in common .., but an end of both");
        clash("an end amid a slanted one", 0, 0, 10, 10, 5, 5, 9, 0);
        clash("an end amid a level one", 0, 0, 10, 0, 5, 0, 5, 5);
        clash("an end next to an end", 0, 0, 10, 0, 9, 0, 10, 5);
        clash("an end next to an end, slanted", 0, 0, 10, 5, 2, 1, 2, 9);
        clash("an end amid the longest", -2000, -2000, 2000, 2000, 1999, 1999, 2000, -2000);
    }

    private static void onOneLineWithMoreThanAnEnd() {
        due.sentence("Promise 2", "a place in common .., but an end of both");
        clash("the same", 0, 0, 10, 5, 0, 0, 10, 5);
        clash("the same, level", 0, 0, 10, 0, 0, 0, 10, 0);
        clash("a part", 0, 0, 10, 10, 2, 2, 8, 8);
        clash("a part, level", 0, 0, 10, 0, 2, 0, 8, 0);
        clash("a part from an end on", 0, 0, 10, 10, 0, 0, 1, 1);
        clash("a part from an end on, level", 0, 0, 10, 0, 0, 0, 9, 0);
        clash("over an end", 0, 0, 10, 5, 8, 4, 12, 6);
        clash("over an end, level", 0, 0, 10, 0, 9, 0, 11, 0);
        clash("over an end, the whole field", -2000, 0, 1, 0, 0, 0, 2000, 0);
    }

    private static void longestThatCross() {
        due.sentence("Promise 2", "a place in common");
        clash("from corner to corner", -2000, -2000, 2000, 2000, -2000, 2000, 2000, -2000);
        clash("at little slant", -2000, -2000, 2000, 1999, -2000, -1999, 2000, 1998);
        clash("close to an end", -2000, -2000, 2000, 1999, 1999, 2000, 2000, 1998);
        clash("level through upright", -2000, 1999, 2000, 1999, 1999, -2000, 1999, 2000);
        clash("an edge of the field", -2000, 2000, 2000, 2000, 0, 2000, 0, -2000);
    }

    private static void endOfBoth() {
        due.sentence("Promise 2", "but an end of both");
        fine("a corner", 0, 0, 10, 0, 0, 0, 0, 10);
        fine("a sharp corner", 0, 0, 2000, 1999, 0, 0, 2000, 2000);
        fine("a blunt corner", -2000, 0, 0, 0, 0, 0, 2000, 1);
        fine("the least corner", 0, 0, 1, 0, 0, 0, 1, 1);
        fine("the corner of the field", -2000, -2000, 2000, -2000, -2000, -2000, 2000, 2000);
    }

    private static void onOneLineEndToEnd() {
        due.sentence("Promise 2", "but an end of both");
        fine("level", 0, 0, 10, 0, 10, 0, 20, 0);
        fine("slanted", 0, 0, 10, 5, 10, 5, 12, 6);
        fine("the whole field", -2000, -2000, 0, 0, 0, 0, 2000, 2000);
    }

    private static void apart() {
        due.sentence("Promise 2", "NONE if .. it would have a place in common");
        fine("on one line, a step apart", 0, 0, 10, 0, 11, 0, 20, 0);
        fine("on one slanted line, a step apart", 0, 0, 10, 5, 12, 6, 14, 7);
        fine("side by side", 0, 0, 10, 10, 0, 1, 10, 11);
        fine("side by side, level", 0, 0, 10, 0, 0, 1, 10, 1);
        fine("an end a step short", 0, 0, 10, 0, 5, 1, 5, 9);
        fine("an end on the line of the other", 0, 0, 10, 10, 11, 11, 20, 0);
        fine("across the line of the other", 0, 0, 10, 10, 20, 30, 30, 20);
        fine("in the corner that the other leaves", 0, 0, 10, 10, 0, 9, 4, 5);
    }

    private static void closeToALongOne() {
        due.sentence("Promise 2", "NONE if .. it would have a place in common");
        fine("least above it", -2000, -2000, 2000, 1999, -1999, -1999, -1999, 0);
        fine("least below it", -2000, -2000, 2000, 1999, 1999, 1998, 2000, -2000);
        fine("of almost its slant", -2000, -2000, 2000, 1999, -2000, -1999, 2000, 2000);
        fine("on both sides of a corner", -2000, -2000, 2000, 1999, -1999, -1999, 2000, 2000);
    }

    private static void clash(String what, int... pair) {
        look(what, pair, -1);
    }

    private static void fine(String what, int... pair) {
        look(what, pair, 1);
    }

    private static void look(String what, int[] pair, int want) {
        for (int way = 0; way < 64; way++) {
            int[] laid = pair.clone();
            for (int end = 0; end < 8; end += 2) {
                lay(laid, end, way);
            }
            int[] first = wall(laid, 0, (way & 8) != 0);
            int[] second = wall(laid, 4, (way & 16) != 0);
            boolean exchanged = (way & 32) != 0;
            RayField f = new RayField();
            Fields.put(f, exchanged ? second : first);
            int got = Fields.put(f, exchanged ? first : second);
            due.is(what + " " + Arrays.toString(laid) + " way " + way, got, want);
            due.is("look(0) after it", f.look(0), want == 1 ? 2 : 1);
        }
    }

    /** Mirrors left to right, bottom to top, and x to y, by the lowest bits of the way. */
    private static void lay(int[] places, int at, int way) {
        int x = (way & 1) != 0 ? -places[at] : places[at];
        int y = (way & 2) != 0 ? -places[at + 1] : places[at + 1];
        places[at] = (way & 4) != 0 ? y : x;
        places[at + 1] = (way & 4) != 0 ? x : y;
    }

    private static int[] wall(int[] p, int at, boolean turned) {
        return turned
            ? new int[] {p[at + 2], p[at + 3], p[at], p[at + 1]}
            : new int[] {p[at], p[at + 1], p[at + 2], p[at + 3]};
    }
}
