/** Promises 7 to 15: engine, figure, put, number, set, mishap, mend, turn, sheet. */
final class EnginesTest {
    private static final Due due = new Due();

    public static void main(String[] args) {
        makesEngines();
        showsFigures();
        setsUp();
        setsUpTheGreatest();
        refusesToSetUp();
        carries();
        slips();
        sticks();
        jams();
        tellsMishapsOfTheirTurn();
        refusesMishaps();
        turnsToTheEnd();
        printsSheets();
        due.end();
    }

    private static WheelTables with(int axes, long... radix) {
        WheelTables x = new WheelTables();
        Works.fill(x, 0, 3, radix);
        due.done(x, "engine", x.engine(axes, radix.length, 0), 0);
        return x;
    }

    private static void numbers(WheelTables x, String when, long... want) {
        for (int axis = 0; axis < want.length; axis++) {
            due.done(x, when + ": number on axis " + axis, x.number(0, axis), want[axis]);
        }
    }

    private static void makesEngines() {
        WheelTables x = new WheelTables();
        due.refused(x, "no such tray", x.engine(1, 0, 4), 1);
        due.refused(x, "a missing tray", x.engine(1, 0, 0), 3);
        Works.fill(x, 0, 3, 2, 12, 13, 1);
        due.refused(x, "one axis", x.engine(1, 2, 0), 5);
        due.refused(x, "eight axes", x.engine(8, 2, 0), 5);
        due.refused(x, "no wheels", x.engine(2, 0, 0), 5);
        due.refused(x, "13 wheels", x.engine(2, 13, 0), 5);
        due.refused(x, "too few numbers, and a radix that can't be", x.engine(2, 5, 0), 4);
        due.refused(x, "radix 13", x.engine(2, 3, 0), 5);
        x.write(0, 2, 3);
        due.refused(x, "radix 1", x.engine(2, 4, 0), 5);
        due.done(x, "the first", x.engine(2, 3, 0), 0);
        due.done(x, "the second", x.engine(7, 1, 0), 1);
        due.done(x, "the third", x.engine(2, 2, 0), 2);
        due.done(x, "the fourth", x.engine(2, 2, 0), 3);
        due.refused(x, "a radix is asked ahead of one too many", x.engine(2, 4, 0), 5);
        due.refused(x, "one too many", x.engine(2, 2, 0), 7);
        x.write(0, 0, 9);
        due.refused(x, "a radix stays what it was", x.put(0, 0, 0, 2), 5);
    }

    private static void showsFigures() {
        WheelTables x = with(2, 2, 12, 3);
        due.done(x, "a figure at first", x.figure(0, 1, 2), 0);
        due.done(x, "put 1", x.put(0, 0, 0, 1));
        due.done(x, "put 11", x.put(0, 0, 1, 11));
        due.done(x, "put 2", x.put(0, 0, 2, 2));
        due.done(x, "a figure", x.figure(0, 0, 1), 11);
        numbers(x, "put", 1 + 11 * 2 + 2 * 24, 0);
        due.refused(x, "a figure too great", x.put(0, 0, 1, 12), 5);
        due.refused(x, "a figure below 0", x.put(0, 0, 1, -1), 5);
        due.refused(x, "put on no wheel", x.put(0, 0, 3, 99), 2);
        due.refused(x, "put on no axis", x.put(0, 2, 0, 0), 2);
        due.refused(x, "put on no engine", x.put(1, 0, 0, 0), 2);
        due.refused(x, "figure of no wheel", x.figure(0, 0, -1), 2);
        due.refused(x, "figure of no axis", x.figure(0, -1, 0), 2);
        due.refused(x, "figure of no engine", x.figure(-1, 0, 0), 2);
        due.refused(x, "number on no axis", x.number(0, 2), 2);
        due.refused(x, "number of no engine", x.number(4, 0), 2);
        numbers(x, "nothing has changed", 71, 0);
    }

    private static void setsUp() {
        WheelTables x = with(7, 10, 10, 10, 10, 10, 10, 10, 10, 10);
        long[] sixth = new long[7];
        for (int i = 0; i < 7; i++) {
            sixth[i] = (long) i * i * i * i * i * i;
        }
        Works.fill(x, 1, 3, sixth);
        x.put(0, 6, 8, 5);
        due.done(x, "set from seven", x.set(0, 1, 7));
        // such as axis 3: 64 - 3 * 1 + 3 * 0 - 1, the third difference at -1
        numbers(x, "set", 0, 1, 2, 60, 120, 360, 720);
        for (int t = 1; t <= 25; t++) {
            due.done(x, "turn", x.turn(0, 1), t);
            due.done(x, "t to the 6", x.number(0, 0), (long) t * t * t * t * t * t % 1000000000);
        }
        due.done(x, "set from one", x.set(0, 1, 1));
        numbers(x, "all others are 0", 0, 0, 0, 0, 0, 0, 0);
        due.done(x, "the turn is 0 behind set", x.turn(0, 1), 1);
        Works.fill(x, 1, 3, 4, 4, 5);
        due.done(x, "set from three", x.set(0, 1, 3));
        numbers(x, "three", 4, 0, 1, 0);
    }

    private static void setsUpTheGreatest() {
        WheelTables x = with(7, 12, 12, 12, 12, 12, 12, 12, 12, 12, 12, 12, 12);
        int g = 1000000000;
        Works.fill(x, 1, 3, g, -g, g, -g, g, -g, g);
        due.done(x, "set from the greatest", x.set(0, 1, 7));
        long all = 8916100448256L;
        long[] values = {g, -g, g, -g, g, -g, g};
        due.done(x, "number at 0", x.number(0, 0), g);
        for (int t = 1; t < 7; t++) {
            x.turn(0, 1);
            due.done(x, "number at " + t, x.number(0, 0), Math.floorMod(values[t], all));
        }
    }

    private static void refusesToSetUp() {
        WheelTables x = with(3, 10, 10);
        Works.fill(x, 1, 3, 1, 2, 3);
        x.set(0, 1, 3);
        due.refused(x, "no such tray, no such engine", x.set(9, 4, 1), 1);
        due.refused(x, "no such engine, a missing tray", x.set(1, 3, 1), 2);
        due.refused(x, "a missing tray, a wrong n", x.set(0, 3, 0), 3);
        due.refused(x, "n of 0", x.set(0, 1, 0), 5);
        due.refused(x, "n above the axes", x.set(0, 1, 4), 5);
        x.tray(2, 3, 1);
        due.refused(x, "too few numbers", x.set(0, 2, 2), 4);
        x.write(2, 0, 1000000001L);
        due.refused(x, "a number too great", x.set(0, 2, 1), 5);
        x.write(2, 0, -1000000001L);
        due.refused(x, "a number too small", x.set(0, 2, 1), 5);
        numbers(x, "nothing has changed", 1, 1, 0);
        x.tray(2, 3, 2);
        x.write(2, 1, 2000000000L);
        due.done(x, "a number that is not asked for", x.set(0, 2, 1));
    }

    private static void carries() {
        WheelTables x = with(2, 6, 10, 2);
        x.put(0, 0, 0, 5);
        x.put(0, 0, 1, 9);
        x.put(0, 1, 0, 1);
        due.done(x, "turn", x.turn(0, 1), 1);
        numbers(x, "one carry after the other", 60, 1);
        x.turn(0, 60);
        numbers(x, "the last carry is lost", 0, 1);
        x.put(0, 1, 0, 5);
        x.put(0, 1, 1, 9);
        x.put(0, 1, 2, 1);
        x.turn(0, 2);
        numbers(x, "less one, twice", 118, 119);
    }

    private static void slips() {
        WheelTables x = with(3, 10, 10);
        Works.fill(x, 1, 3, 0, 1, 4);
        x.set(0, 1, 3);
        due.done(x, "slip of axis 1", x.mishap(0, 1, 1, 0, 0));
        due.done(x, "slip of axis 0", x.mishap(0, 2, 0, 1, 0));
        x.turn(0, 1);
        numbers(x, "at the turn's end", 1, 2, 2);
        x.turn(0, 1);
        numbers(x, "from 0 to the highest figure", 93, 4, 2);
        x.mishap(0, 3, 0, 0, 0);
        x.mishap(0, 3, 0, 0, 0);
        x.turn(0, 1);
        numbers(x, "each of two slips is one less", 95, 6, 2);
    }

    private static void sticks() {
        WheelTables x = with(2, 10, 10, 10);
        x.put(0, 0, 0, 9);
        x.put(0, 0, 1, 9);
        x.put(0, 1, 0, 1);
        x.mishap(0, 1, 0, 1, 1);
        x.turn(0, 1);
        numbers(x, "a carry that does not move it does not go on", 90, 1);
        x.put(0, 0, 0, 9);
        x.put(0, 0, 1, 5);
        x.put(0, 1, 1, 7);
        x.mishap(0, 2, 0, 1, 1);
        x.turn(0, 1);
        numbers(x, "it is warned by the figure all the same", 120, 71);
        x.mishap(0, 3, 0, 0, 1);
        x.turn(0, 1);
        numbers(x, "no carry comes to the lowest", 191, 71);
    }

    private static void jams() {
        WheelTables x = with(2, 10, 10);
        x.put(0, 0, 0, 9);
        x.put(0, 0, 1, 9);
        x.put(0, 1, 0, 2);
        x.put(0, 1, 1, 3);
        x.mishap(0, 1, 0, 1, 2);
        x.turn(0, 1);
        numbers(x, "a carry moves it all the same", 1, 32);
        x.mishap(0, 2, 0, 0, 2);
        x.turn(0, 1);
        numbers(x, "the other wheel moves", 31, 32);
        x.put(0, 0, 0, 8);
        x.mishap(0, 3, 0, 1, 1);
        x.mishap(0, 3, 0, 1, 2);
        x.mishap(0, 3, 0, 1, 0);
        x.turn(0, 1);
        numbers(x, "stuck, jammed and slipped", 20, 32);
        x.turn(0, 1);
        numbers(x, "and free in the next turn", 52, 32);
    }

    private static void tellsMishapsOfTheirTurn() {
        WheelTables x = with(2, 10, 10);
        x.turn(0, 3);
        due.done(x, "a mishap of a turn that is gone", x.mishap(0, 3, 0, 0, 0));
        x.turn(0, 1);
        numbers(x, "has no effect", 0, 0);
        Works.fill(x, 1, 3, 5);
        x.set(0, 1, 1);
        x.turn(0, 4);
        numbers(x, "until the turn comes again", 4, 0);
        due.done(x, "mend", x.mend(0));
        x.set(0, 1, 1);
        x.turn(0, 4);
        numbers(x, "behind mend", 5, 0);
        due.refused(x, "mend no engine", x.mend(1), 2);
        due.refused(x, "mend no engine", x.mend(-1), 2);
    }

    private static void refusesMishaps() {
        WheelTables x = with(3, 10, 10);
        due.refused(x, "no such engine", x.mishap(1, 0, 0, 0, 0), 2);
        due.refused(x, "the last axis, a wrong turn", x.mishap(0, 0, 2, 0, 0), 2);
        due.refused(x, "no such axis", x.mishap(0, 1, -1, 0, 0), 2);
        due.refused(x, "no such wheel, a wrong kind", x.mishap(0, 1, 0, 2, 3), 2);
        due.refused(x, "turn 0", x.mishap(0, 0, 0, 0, 0), 5);
        due.refused(x, "turn 1,001", x.mishap(0, 1001, 0, 0, 0), 5);
        due.refused(x, "kind 3", x.mishap(0, 1, 0, 0, 3), 5);
        due.refused(x, "kind -1", x.mishap(0, 1, 0, 0, -1), 5);
        for (int i = 0; i < 20; i++) {
            due.done(x, "mishap " + i, x.mishap(0, 1000, 1, 1, i % 3));
        }
        due.refused(x, "one too many", x.mishap(0, 1, 0, 0, 0), 7);
        due.refused(x, "a wrong kind comes first", x.mishap(0, 1, 0, 0, 3), 5);
        x.mend(0);
        due.done(x, "behind mend", x.mishap(0, 1, 0, 0, 0));
    }

    private static void turnsToTheEnd() {
        WheelTables x = with(2, 10, 10);
        due.refused(x, "no such engine", x.turn(1, 0), 2);
        due.refused(x, "no turns", x.turn(0, 0), 5);
        due.refused(x, "201 turns", x.turn(0, 201), 5);
        for (int i = 1; i <= 4; i++) {
            due.done(x, "200 turns", x.turn(0, 200), 200 * i);
        }
        due.done(x, "199 turns", x.turn(0, 199), 999);
        due.refused(x, "beyond 1,000", x.turn(0, 2), 9);
        due.done(x, "the last turn", x.turn(0, 1), 1000);
        due.refused(x, "no more", x.turn(0, 1), 9);
        due.refused(x, "201 turns come first", x.turn(0, 201), 5);
    }

    private static void printsSheets() {
        WheelTables x = with(2, 10, 10, 10);
        Works.fill(x, 1, 3, 100, 150);
        x.set(0, 1, 2);
        x.mishap(0, 3, 0, 0, 0);
        x.tray(2, 0, 4);
        x.write(2, 3, 77);
        due.refused(x, "no such tray, no such engine", x.sheet(1, 4, 0), 1);
        due.refused(x, "no such engine, a missing tray", x.sheet(1, 3, 0), 2);
        due.refused(x, "a missing tray, no rows", x.sheet(0, 3, 0), 3);
        due.refused(x, "no rows", x.sheet(0, 2, 0), 5);
        due.refused(x, "61 rows", x.sheet(0, 2, 61), 5);
        due.refused(x, "too few numbers", x.sheet(0, 2, 5), 4);
        due.done(x, "three rows", x.sheet(0, 2, 3));
        long[] want = {(byte) 150, (byte) 200, (byte) 259, 77};
        for (int i = 0; i < 4; i++) {
            due.done(x, "row " + i, x.read(2, i), want[i]);
        }
        due.done(x, "a sheet turns the engine", x.turn(0, 1), 4);
        numbers(x, "as well as turn does", 309, 50);
        for (int i = 0; i < 4; i++) {
            x.turn(0, 200);
        }
        x.turn(0, 194);
        due.refused(x, "beyond turn 1,000", x.sheet(0, 2, 3), 9);
        due.refused(x, "too few numbers come first", x.sheet(0, 2, 5), 4);
        due.done(x, "a refused sheet writes nothing", x.read(2, 0), (byte) 150);
        due.done(x, "to turn 1,000", x.sheet(0, 2, 2));
    }
}
