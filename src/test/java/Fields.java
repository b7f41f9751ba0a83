/** Fields and numbers that several tests use. */
final class Fields {
    /** No number of a wall and no place in the row of the met ones, in any field. */
    static final int[] NO_NUMBERS = {
        -1, -2, -64, 64, 65, 127, 128, 255, 256, 65536, Integer.MIN_VALUE, Integer.MIN_VALUE + 1,
        Integer.MAX_VALUE - 1, Integer.MAX_VALUE};

    private Fields() { }

    /** 64 level walls, number n at the height n, from x = -10 to x = 10. */
    static RayField full() {
        RayField field = new RayField();
        fill(field);
        return field;
    }

    static void fill(RayField field) {
        for (int n = 0; n < 64; n++) {
            field.put(-10, n, 10, n);
        }
    }

    /** What lies just outside a range, far outside it, and where an int of it would wrap around. */
    static int[] outside(int least, int most) {
        return new int[] {
            least - 1, most + 1, least - 65536, most + 65536, Integer.MIN_VALUE, Integer.MIN_VALUE + 1,
            Integer.MAX_VALUE - 1, Integer.MAX_VALUE};
    }

    /** The numbers, but for one of them. */
    static int[] with(int[] numbers, int at, int value) {
        int[] changed = numbers.clone();
        changed[at] = value;
        return changed;
    }

    static int put(RayField field, int[] w) {
        return field.put(w[0], w[1], w[2], w[3]);
    }

    static boolean ray(RayField field, int[] r) {
        return field.ray(r[0], r[1], r[2], r[3]);
    }
}
