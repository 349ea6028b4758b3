/** What the tests of explain ask again and again of sheets. */
abstract class SheetAsks {
    static final Due due = new Due();

    /** Three axes with three wheels of ten that turn out 1, 4, 9, 16 .. */
    static WheelTables squares() {
        WheelTables x = Works.with(3, 10, 10, 10);
        Works.fill(x, 1, 3, 0, 1, 4);
        x.set(0, 1, 3);
        return x;
    }

    static void explained(WheelTables x, String by, int rows, int turn, int axis, int wheel, int kind) {
        due.done(x, by, x.explain(0, 2, rows), 1);
        due.done(x, by + ": turn", x.because(0), turn);
        due.done(x, by + ": axis", x.because(1), axis);
        due.done(x, by + ": wheel", x.because(2), wheel);
        due.done(x, by + ": kind", x.because(3), kind);
    }
}
