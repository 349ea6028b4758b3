/** What the tests of errata ask again and again of tables. */
abstract class TableAsks {
    static final Due due = new Due();

    static WheelTables table(long... values) {
        WheelTables x = new WheelTables();
        Works.fill(x, 0, 3, values);
        return x;
    }

    /** The findings: number and value, number and value. */
    static void found(WheelTables x, int... want) {
        for (int j = 0; j < want.length / 2; j++) {
            due.done(x, "number " + j, x.right(j, 0), want[2 * j]);
            due.done(x, "value " + j, x.right(j, 1), want[2 * j + 1]);
        }
        due.refused(x, "no more", x.right(want.length / 2, 0), 8);
        due.refused(x, "no more", x.right(want.length / 2, 1), 8);
    }
}
