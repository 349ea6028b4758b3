/** The edges of engines, sentence by sentence: promises 7 to 15, and what stands under "Terms" for them. */
final class EnginesEdgesTest {
    private static final long ALL_OF_TWELVES = 8916100448256L;
    private static final Due due = new Due();

    public static void main(String[] args) {
        fourEngines();
        axesAndWheels();
        radixes();
        radixesByTheFirstNumbers();
        figures();
        greatestNumber();
        comesToItsRadix();
        carriesGoOn();
        theOtherAxisStays();
        axesThatThereAre();
        slips();
        sticks();
        jams();
        severalOfOneWheel();
        mishapsInReach();
        twentyMishaps();
        toldAhead();
        mends();
        setFromSoMany();
        setFromNumbersInReach();
        setByWhatIsLeftOver();
        setOfTheLeastDegree();
        turnIsZeroThen();
        soManyTurns();
        lastTurn();
        rowsOfASheet();
        sheetToTheLastTurn();
        sheetCutToItsSort();
        due.end();
    }

    private static void numbers(WheelTables x, String when, long... want) {
        for (int axis = 0; axis < want.length; axis++) {
            due.done(x, when + ": number on axis " + axis, x.number(0, axis), want[axis]);
        }
    }

    private static void fourEngines() {
        due.sentence("ENGINES, at most 4, numbered as they come");
        due.sentence("7 one too many.");
        WheelTables x = new WheelTables();
        Works.fill(x, 0, 0, 10, 10);
        due.refused(x, "a refused engine takes no number", x.engine(1, 1, 0), 5);
        for (int i = 0; i < 4; i++) {
            due.refused(x, "no engine " + i + " yet", x.number(i, 0), 2);
            due.done(x, "engine " + i, x.engine(2, 1 + i % 2, 0), i);
            due.done(x, "now there is", x.number(i, 0), 0);
        }
        due.refused(x, "a fifth engine", x.engine(2, 1, 0), 7);
        due.refused(x, "no engine 4", x.number(4, 0), 2);
        due.done(x, "the last engine is put", x.put(3, 0, 1, 9));
        due.done(x, "the last engine has that", x.number(3, 0), 90);
        due.done(x, "the one before it has not", x.number(1, 0), 0);
    }

    private static void axesAndWheels() {
        due.sentence("2 to 7 AXES, 1 to 12 WHEELS on each");
        WheelTables x = new WheelTables();
        Works.fill(x, 0, 0, Works.times(60, 2));
        due.refused(x, "1 axis", x.engine(1, 1, 0), 5);
        due.refused(x, "8 axes", x.engine(8, 1, 0), 5);
        due.refused(x, "no wheels", x.engine(2, 0, 0), 5);
        due.refused(x, "13 wheels", x.engine(2, 13, 0), 5);
        due.done(x, "2 axes, 1 wheel", x.engine(2, 1, 0), 0);
        due.done(x, "7 axes, 12 wheels", x.engine(7, 12, 0), 1);
        due.sentence("2 no such ENGINE, AXIS, wheel, PLACE, row, JOB.");
        due.done(x, "axis 1 of 2", x.figure(0, 1, 0), 0);
        due.refused(x, "axis 2 of 2", x.figure(0, 2, 0), 2);
        due.refused(x, "axis -1", x.figure(0, -1, 0), 2);
        due.refused(x, "wheel 1 of 1", x.figure(0, 0, 1), 2);
        due.refused(x, "wheel -1", x.figure(0, 0, -1), 2);
        due.done(x, "axis 6 of 7, wheel 11 of 12", x.figure(1, 6, 11), 0);
        due.refused(x, "axis 7 of 7", x.figure(1, 7, 11), 2);
        due.refused(x, "wheel 12 of 12", x.figure(1, 6, 12), 2);
        due.done(x, "the number on axis 6 of 7", x.number(1, 6), 0);
        due.refused(x, "the number on axis 7 of 7", x.number(1, 7), 2);
        due.done(x, "put on axis 6, wheel 11", x.put(1, 6, 11, 1));
        due.done(x, "that is 2 to the 11", x.number(1, 6), 2048);
    }

    private static void radixes() {
        due.sentence("wheel i of all axes has a RADIX (2 to 12; i from 0, the lowest).");
        for (long radix : new long[] {2, 12}) {
            WheelTables x = new WheelTables();
            Works.fill(x, 0, 3, radix);
            due.done(x, "radix " + radix, x.engine(2, 1, 0), 0);
        }
        for (long radix : new long[] {1, 13, 0, -2, (1L << 32) + 2, Long.MIN_VALUE, Long.MAX_VALUE}) {
            WheelTables x = new WheelTables();
            Works.fill(x, 0, 3, radix, 10);
            due.refused(x, "radix " + radix, x.engine(2, 1, 0), 5);
            Works.fill(x, 0, 3, 10, radix);
            due.refused(x, "radix " + radix + " of the last wheel", x.engine(2, 2, 0), 5);
            due.done(x, "radix " + radix + " of none", x.engine(2, 1, 0), 0);
        }
        WheelTables x = Works.with(7, 3, 12);
        for (int axis = 0; axis < 7; axis++) {
            due.refused(x, "figure 3 of wheel 0", x.put(0, axis, 0, 3), 5);
            due.done(x, "figure 11 of wheel 1", x.put(0, axis, 1, 11));
            due.done(x, "wheel 0 is the lowest", x.number(0, axis), 33);
        }
    }

    private static void radixesByTheFirstNumbers() {
        due.sentence("so many AXES, so many WHEELS, with RADIXES by the first numbers of a TRAY");
        WheelTables x = new WheelTables();
        Works.fill(x, 0, 0, 4, 5, 6);
        due.done(x, "as many as wheels", x.engine(2, 3, 0), 0);
        due.refused(x, "one too few", x.engine(2, 4, 0), 4);
        x.tray(1, 0, 0);
        due.refused(x, "none at all", x.engine(2, 1, 1), 4);
        due.done(x, "the tray changes", x.write(0, 0, 9));
        due.refused(x, "the radix does not", x.put(0, 0, 0, 4), 5);
        due.done(x, "the tray is made anew", x.tray(0, 0, 0));
        due.done(x, "the radix stays, too", x.put(0, 0, 0, 3));
    }

    private static void figures() {
        due.sentence("A FIGURE is 0 to RADIX less 1; all 0 at first.");
        due.sentence("A wheel is put to a FIGURE (2; 5).");
        long[] radix = {2, 12, 7};
        WheelTables x = Works.with(3, radix);
        for (int axis = 0; axis < 3; axis++) {
            for (int wheel = 0; wheel < 3; wheel++) {
                int most = (int) radix[wheel] - 1;
                due.done(x, "at first", x.figure(0, axis, wheel), 0);
                due.done(x, "put " + most, x.put(0, axis, wheel, most));
                due.refused(x, "put " + (most + 1), x.put(0, axis, wheel, most + 1), 5);
                due.refused(x, "put -1", x.put(0, axis, wheel, -1), 5);
                due.done(x, "it stays", x.figure(0, axis, wheel), most);
                due.done(x, "put 0", x.put(0, axis, wheel, 0));
                due.done(x, "it is 0", x.figure(0, axis, wheel), 0);
            }
        }
    }

    private static void greatestNumber() {
        due.sentence("The NUMBER on an AXIS: wheel 0, and wheel 1 times RADIX 0, and wheel 2 times RADIX 0 and 1,"
            + " and so on.");
        due.sentence("ALL is one more than the greatest.");
        WheelTables x = Works.with(2, Works.times(12, 12));
        Works.lay(x, 0, 0, 11, 11, 11, 11, 11, 11, 11, 11, 11, 11, 11, 11);
        Works.lay(x, 0, 1, 1);
        numbers(x, "the greatest of all engines", ALL_OF_TWELVES - 1, 1);
        x.turn(0, 1);
        numbers(x, "one more is 0", 0, 1);
        x = Works.with(2, 3, 4, 5);
        Works.lay(x, 0, 0, 2, 3, 4);
        numbers(x, "the greatest of unlike wheels", 59);
        x = Works.with(2, 2);
        Works.lay(x, 0, 0, 1);
        Works.lay(x, 0, 1, 1);
        numbers(x, "the least engine", 1, 1);
        x.turn(0, 1);
        numbers(x, "there is no next wheel", 0, 1);
    }

    private static void comesToItsRadix() {
        due.sentence("first each wheel there is moved by the figure of the same one here;"
            + " one that comes to its RADIX or beyond goes on from 0, and is WARNED.");
        int[][] sums = {{4, 5, 9}, {4, 6, 10}, {9, 9, 18}, {9, 0, 9}, {0, 9, 9}, {9, 1, 10}};
        for (int[] sum : sums) {
            WheelTables x = Works.with(2, 10, 10);
            Works.lay(x, 0, 0, sum[0]);
            Works.lay(x, 0, 1, sum[1]);
            x.turn(0, 1);
            numbers(x, sum[0] + " and " + sum[1], sum[2], sum[1]);
        }
        WheelTables x = Works.with(2, 2, 12);
        Works.lay(x, 0, 0, 1, 5);
        Works.lay(x, 0, 1, 1, 5);
        x.turn(0, 1);
        numbers(x, "each wheel by its own radix: 11 and 11", 22, 11);
    }

    private static void carriesGoOn() {
        due.sentence("Then, wheel by wheel from 0 on: if it is WARNED, the next one moves by 1 (if there is one);"
            + " if that comes to its RADIX, it goes to 0 and is WARNED, too.");
        WheelTables x = Works.with(2, 10, 10, 10, 10);
        Works.lay(x, 0, 0, 9, 4, 0);
        Works.lay(x, 0, 1, 1, 5, 0);
        x.turn(0, 1);
        numbers(x, "49 and 51: a carry brings the next one to its radix", 100);
        Works.lay(x, 0, 0, 9, 3, 0);
        x.turn(0, 1);
        numbers(x, "39 and 51: a carry stops one short of it", 90);
        Works.lay(x, 0, 0, 9, 9, 0);
        Works.lay(x, 0, 1, 9, 9, 0);
        x.turn(0, 1);
        numbers(x, "99 and 99: warned once, though moved twice", 198);
        Works.lay(x, 0, 0, 9, 9, 9, 9);
        Works.lay(x, 0, 1, 1, 0, 0, 0);
        x.turn(0, 1);
        numbers(x, "through all wheels, and out", 0);
        Works.lay(x, 0, 0, 9, 8, 9, 9);
        x.turn(0, 1);
        numbers(x, "up to the wheel that does not come to it", 9990);
    }

    private static void theOtherAxisStays() {
        due.sentence("The other AXIS stays as it is.");
        WheelTables x = Works.with(2, 10, 10);
        Works.lay(x, 0, 0, 9, 9);
        Works.lay(x, 0, 1, 9, 9);
        x.turn(0, 1);
        numbers(x, "99 and 99", 98, 99);
    }

    private static void axesThatThereAre() {
        due.sentence("A TURN: first AXIS 1 is added to 0, 3 to 2, 5 to 4; then 2 to 1, 4 to 3, 6 to 5"
            + " (those that there are).");
        long[][] want = {
            {11, 10},
            {11, 110, 100},
            {11, 1110, 1100, 1000},
            {11, 1110, 1100, 11000, 10000},
            {11, 1110, 1100, 111000, 110000, 100000},
            {11, 1110, 1100, 111000, 110000, 1100000, 1000000}};
        for (long[] behind : want) {
            WheelTables x = Works.with(behind.length, Works.times(8, 10));
            for (int axis = 0; axis < behind.length; axis++) {
                x.put(0, axis, axis, 1);
            }
            due.done(x, "the first turn", x.turn(0, 1), 1);
            numbers(x, behind.length + " axes", behind);
        }
    }

    private static void slips() {
        due.sentence("SLIP (0): at the TURN's end it stands one less (at 0: at RADIX less 1)");
        int[][] stands = {{0, 11}, {1, 0}, {11, 10}};
        for (int[] s : stands) {
            WheelTables x = Works.with(2, 12, 12, 12);
            Works.lay(x, 0, 0, 5, s[0], 5);
            due.done(x, "slip of wheel 1", x.mishap(0, 1, 0, 1, 0));
            x.turn(0, 1);
            numbers(x, "from " + s[0] + ", and no other wheel moves", 5 + 12 * s[1] + 144 * 5);
            x.turn(0, 1);
            numbers(x, "only in its turn", 5 + 12 * s[1] + 144 * 5);
        }
        WheelTables x = Works.with(3, 10, 10);
        Works.lay(x, 0, 1, 3);
        Works.lay(x, 0, 2, 4);
        x.mishap(0, 1, 1, 0, 0);
        x.turn(0, 1);
        numbers(x, "axis 1 was added ahead of that", 3, 6, 4);
        x = Works.with(2, 2);
        x.mishap(0, 1, 0, 0, 0);
        x.turn(0, 1);
        numbers(x, "of two figures, from 0 to 1", 1);
    }

    private static void sticks() {
        due.sentence("STICK (1): in the adding to it a carry does not move it (nor is it WARNED by that)");
        WheelTables x = Works.with(2, 10, 10, 10);
        Works.lay(x, 0, 0, 9, 9, 0);
        Works.lay(x, 0, 1, 1, 0, 0);
        x.mishap(0, 1, 0, 1, 1);
        x.turn(0, 1);
        numbers(x, "99 and 1: the carry ends there", 90, 1);
        Works.lay(x, 0, 0, 9, 5, 0);
        Works.lay(x, 0, 1, 1, 5, 0);
        x.mishap(0, 2, 0, 1, 1);
        x.turn(0, 1);
        numbers(x, "59 and 51: its figure warns it all the same", 100, 51);
        Works.lay(x, 0, 0, 9, 0, 9);
        Works.lay(x, 0, 1, 1, 0, 0);
        x.mishap(0, 3, 0, 2, 1);
        x.mishap(0, 3, 0, 0, 1);
        x.turn(0, 1);
        numbers(x, "no carry came to wheels 0 and 2", 910, 1);
        Works.lay(x, 0, 0, 9, 9, 9);
        x.mishap(0, 4, 0, 2, 1);
        x.turn(0, 1);
        numbers(x, "the last wheel sticks", 900, 1);
        x = Works.with(3, 10, 10);
        Works.lay(x, 0, 0, 9, 1);
        Works.lay(x, 0, 1, 9, 1);
        Works.lay(x, 0, 2, 9, 1);
        x.mishap(0, 1, 1, 1, 1);
        x.turn(0, 1);
        numbers(x, "axis 1 sticks when 2 is added to it, not when it is added to 0", 38, 28, 19);
    }

    private static void jams() {
        due.sentence("JAM (2): in the adding to it the figure of the other AXIS does not move it"
            + " (nor is it WARNED by that).");
        WheelTables x = Works.with(2, 10, 10, 10);
        Works.lay(x, 0, 0, 1, 9, 0);
        Works.lay(x, 0, 1, 1, 9, 0);
        x.mishap(0, 1, 0, 1, 2);
        x.turn(0, 1);
        numbers(x, "91 and 91: no figure, no warning", 92, 91);
        Works.lay(x, 0, 0, 9, 9, 0);
        x.mishap(0, 2, 0, 1, 2);
        x.turn(0, 1);
        numbers(x, "99 and 91: a carry moves it, and warns it", 100, 91);
        Works.lay(x, 0, 0, 9, 0, 0);
        x.mishap(0, 3, 0, 0, 2);
        x.turn(0, 1);
        numbers(x, "9 and 91: the lowest jams", 99, 91);
        x = Works.with(3, 10, 10);
        Works.lay(x, 0, 1, 4);
        Works.lay(x, 0, 2, 3);
        x.mishap(0, 1, 1, 0, 2);
        x.turn(0, 1);
        numbers(x, "axis 1 jams when 2 is added to it, not when it is added to 0", 4, 4, 3);
    }

    private static void severalOfOneWheel() {
        due.sentence("A TURN's MISHAPS are those told ahead of it.");
        for (int order = 0; order < 2; order++) {
            WheelTables x = Works.with(2, 10, 10, 10);
            Works.lay(x, 0, 0, 9, 5, 0);
            Works.lay(x, 0, 1, 9, 9, 0);
            x.mishap(0, 1, 0, 1, 1 + order);
            x.mishap(0, 1, 0, 1, 2 - order);
            x.turn(0, 1);
            numbers(x, "59 and 99, stuck and jammed", 58, 99);
            x.turn(0, 1);
            numbers(x, "58 and 99, free again", 157, 99);
        }
        WheelTables x = Works.with(2, 10, 10);
        Works.lay(x, 0, 0, 9, 5);
        Works.lay(x, 0, 1, 9, 9);
        for (int kind = 0; kind < 3; kind++) {
            x.mishap(0, 1, 0, 1, kind);
        }
        x.mishap(0, 1, 0, 0, 0);
        x.turn(0, 1);
        numbers(x, "all three of wheel 1, and a slip of wheel 0", 47, 99);
        x = Works.with(2, 10);
        x.mishap(0, 1, 0, 0, 0);
        x.mishap(0, 1, 0, 0, 0);
        x.turn(0, 1);
        numbers(x, "two slips of one wheel are two", 8);
    }

    private static void mishapsInReach() {
        due.sentence("in a TURN (1 to 1,000), of an AXIS but the last, a wheel");
        WheelTables x = Works.with(4, 10, 10, 10);
        due.done(x, "turn 1", x.mishap(0, 1, 0, 0, 0));
        due.done(x, "turn 1,000", x.mishap(0, 1000, 0, 0, 0));
        due.refused(x, "turn 0", x.mishap(0, 0, 0, 0, 0), 5);
        due.refused(x, "turn 1,001", x.mishap(0, 1001, 0, 0, 0), 5);
        due.done(x, "the last axis but one", x.mishap(0, 1, 2, 0, 0));
        due.refused(x, "the last axis", x.mishap(0, 1, 3, 0, 0), 2);
        due.refused(x, "axis -1", x.mishap(0, 1, -1, 0, 0), 2);
        due.done(x, "the last wheel", x.mishap(0, 1, 0, 2, 0));
        due.refused(x, "no wheel 3", x.mishap(0, 1, 0, 3, 0), 2);
        due.refused(x, "no wheel -1", x.mishap(0, 1, 0, -1, 0), 2);
        due.done(x, "kind 2", x.mishap(0, 1, 0, 1, 2));
        due.refused(x, "kind 3", x.mishap(0, 1, 0, 1, 3), 5);
        due.refused(x, "kind -1", x.mishap(0, 1, 0, 1, -1), 5);
        x.turn(0, 1);
        numbers(x, "those that were taken, and no other", 909, 0, 9, 0);
        x = Works.with(2, 10);
        x.mishap(0, 1000, 0, 0, 0);
        Works.turnOn(x, 0, 999);
        numbers(x, "behind turn 999", 0);
        due.done(x, "turn 1,000", x.turn(0, 1), 1000);
        numbers(x, "behind turn 1,000", 9);
    }

    private static void twentyMishaps() {
        due.sentence("MISHAPS, at most 20 of an ENGINE");
        WheelTables x = Works.with(2, 12, 12);
        x.engine(2, 1, 0);
        for (int i = 1; i <= 20; i++) {
            due.done(x, "mishap " + i, x.mishap(0, i, 0, 1, 0));
        }
        due.refused(x, "mishap 21", x.mishap(0, 21, 0, 1, 0), 7);
        due.done(x, "another engine has its own", x.mishap(1, 21, 0, 0, 0));
        x.turn(0, 19);
        numbers(x, "19 slips of a wheel of twelve", 12 * (24 - 19));
        x.turn(0, 1);
        numbers(x, "20 slips", 12 * (24 - 20));
        x.turn(0, 1);
        numbers(x, "the 21st was not told", 12 * (24 - 20));
        due.refused(x, "those that are over count still", x.mishap(0, 30, 0, 0, 0), 7);
        due.done(x, "mend", x.mend(0));
        for (int i = 1; i <= 20; i++) {
            due.done(x, "mishap " + i + " behind mend", x.mishap(0, 100, 0, 1, 1));
        }
        due.refused(x, "mishap 21 behind mend", x.mishap(0, 100, 0, 1, 1), 7);
    }

    private static void toldAhead() {
        due.sentence("A TURN's MISHAPS are those told ahead of it.");
        WheelTables x = Works.with(2, 10);
        x.turn(0, 3);
        due.done(x, "of the turn that was", x.mishap(0, 3, 0, 0, 0));
        due.done(x, "of the next turn", x.mishap(0, 4, 0, 0, 0));
        numbers(x, "told, not turned", 0);
        x.turn(0, 1);
        numbers(x, "only that of the next turn", 9);
        x.turn(0, 10);
        numbers(x, "and of no other", 9);
    }

    private static void mends() {
        due.sentence("All MISHAPS of an ENGINE are forgotten (2).");
        WheelTables x = Works.with(2, 10);
        x.engine(2, 1, 0);
        due.done(x, "mend without mishaps", x.mend(0));
        x.mishap(0, 1, 0, 0, 0);
        x.mishap(1, 1, 0, 0, 0);
        due.done(x, "mend", x.mend(0));
        x.turn(0, 1);
        x.turn(1, 1);
        due.done(x, "of this one", x.number(0, 0), 0);
        due.done(x, "not of another one", x.number(1, 0), 9);
        x.mend(1);
        due.done(x, "what has happened stays", x.number(1, 0), 9);
    }

    private static void setFromSoMany() {
        due.sentence("SET up from n values (1 to as many as AXES)");
        for (int axes = 2; axes <= 7; axes++) {
            WheelTables x = Works.with(axes, 10, 10, 10, 10, 10, 10);
            Works.fill(x, 1, 3, 3, 1, 4, 1, 5, 9, 2, 6);
            due.refused(x, "no values", x.set(0, 1, 0), 5);
            due.refused(x, "one more than axes", x.set(0, 1, axes + 1), 5);
            due.done(x, "one value", x.set(0, 1, 1));
            x.turn(0, 200);
            due.done(x, "shows that for ever", x.number(0, 0), 3);
            due.done(x, "as many as axes", x.set(0, 1, axes));
            due.done(x, "shows the first one", x.number(0, 0), 3);
            x.tray(2, 3, axes - 1);
            due.done(x, "and then", x.sheet(0, 2, axes - 1));
            for (int t = 1; t < axes; t++) {
                due.done(x, "value " + t, x.read(2, t - 1), x.read(1, t));
            }
        }
        due.sentence("SET up from the first n numbers of a TRAY (1; 2; 3; 5: n; 4; 5: a number; in this order).");
        WheelTables x = Works.with(3, 10, 10);
        Works.fill(x, 1, 0, 7, 8);
        due.done(x, "as many as there are", x.set(0, 1, 2));
        numbers(x, "a line", 7, 1, 0);
        due.refused(x, "one too few", x.set(0, 1, 3), 4);
        numbers(x, "stays as it is", 7, 1, 0);
    }

    private static void setFromNumbersInReach() {
        due.sentence("each -1,000,000,000 to 1,000,000,000");
        long billion = 1000000000;
        for (int at = 0; at < 2; at++) {
            for (long far : new long[] {billion, -billion}) {
                WheelTables x = Works.with(2, Works.times(12, 12));
                Works.fill(x, 1, 3, 0, 0);
                x.write(1, at, far);
                due.done(x, far + " as value " + at, x.set(0, 1, 2));
                x.turn(0, at == 0 ? 200 : 1);
                // from far to 0 and on: t turns are far less t times far
                long want = at == 0 ? far - 200 * far : far;
                numbers(x, "shows it", Math.floorMod(want, ALL_OF_TWELVES));
                x.write(1, at, far + Long.signum(far));
                due.refused(x, "one further", x.set(0, 1, 2), 5);
                x.write(1, at, Long.signum(far) * (1L << 40));
                due.refused(x, "far further", x.set(0, 1, 2), 5);
                numbers(x, "still shows it", Math.floorMod(want, ALL_OF_TWELVES));
            }
        }
        WheelTables x = Works.with(2, 10);
        Works.fill(x, 1, 3, 4, billion + 1);
        due.done(x, "a number that is not asked for", x.set(0, 1, 1));
        due.refused(x, "a number that is", x.set(0, 1, 2), 5);
    }

    private static void setByWhatIsLeftOver() {
        due.sentence("what the polynomial of the least degree through these values at 0, 1 .. is at t,"
            + " by what is left over ALL (0 and more)");
        long[][] shown = {{0, 0}, {99, 99}, {100, 0}, {101, 1}, {-1, 99}, {-99, 1}, {-100, 0}, {-101, 99},
            {1000000000, 0}, {-1000000000, 0}, {999999999, 99}, {-999999999, 1}};
        for (long[] s : shown) {
            WheelTables x = Works.with(2, 10, 10);
            Works.fill(x, 1, 3, s[0]);
            due.done(x, "set from " + s[0], x.set(0, 1, 1));
            numbers(x, s[0] + " shows", s[1], 0);
        }
        WheelTables x = Works.with(3, 10, 10);
        Works.fill(x, 1, 3, 3, 1, 0);
        x.set(0, 1, 3);
        // axes 0, -2, 1: from -2 on, 2 less than 100
        numbers(x, "an axis below 0", 3, 98, 1);
        x.turn(0, 1);
        numbers(x, "turns on from there", 1, 99, 1);
        x.turn(0, 1);
        numbers(x, "over ALL", 0, 0, 1);
        x.turn(0, 15);
        // (t squared less 5 t and 6) by 2, at 17
        numbers(x, "beyond ALL", 105 % 100, 15, 1);
    }

    private static void setOfTheLeastDegree() {
        due.sentence("all AXES that this needs, others 0; the TURN is 0 then.");
        WheelTables x = Works.with(7, 10, 10, 10);
        for (int axis = 0; axis < 7; axis++) {
            x.put(0, axis, 2, 9);
        }
        Works.fill(x, 1, 3, 5, 7, 9, 11, 13, 15, 17);
        due.done(x, "a line from seven", x.set(0, 1, 7));
        numbers(x, "needs two axes", 5, 2, 0, 0, 0, 0, 0);
        x.put(0, 6, 0, 1);
        due.done(x, "a line from two", x.set(0, 1, 2));
        numbers(x, "the others are 0", 5, 2, 0, 0, 0, 0, 0);
        Works.fill(x, 1, 3, 0, 0, 0, 0, 0, 0, 1);
        due.done(x, "the sixth difference alone", x.set(0, 1, 7));
        // t choose 6, with the differences t choose 6 - j; axes 2 and 3 stand at -1, axes 4 and 5 at -2
        numbers(x, "needs all", 0, 0, 1, 999, 3, 998, 1);
        due.done(x, "from three of these", x.set(0, 1, 3));
        numbers(x, "needs none", 0, 0, 0, 0, 0, 0, 0);
        Works.fill(x, 1, 3, 8, 3, 1, 4, 1, 5, 9);
        x.set(0, 1, 7);
        due.done(x, "from one, behind seven", x.set(0, 1, 1));
        numbers(x, "needs one", 8, 0, 0, 0, 0, 0, 0);
        x.set(0, 1, 7);
        due.done(x, "from three, behind seven", x.set(0, 1, 3));
        numbers(x, "needs three", 8, 995, 3, 0, 0, 0, 0);
    }

    private static void turnIsZeroThen() {
        due.sentence("all AXES that this needs, others 0; the TURN is 0 then.");
        due.sentence("TURN 0 at first.");
        WheelTables x = Works.with(2, 10, 10);
        Works.fill(x, 1, 3, 5);
        due.done(x, "the first turn", x.turn(0, 1), 1);
        Works.turnOn(x, 0, 999);
        due.refused(x, "no turn more", x.turn(0, 1), 9);
        due.refused(x, "a set that is refused", x.set(0, 1, 2), 4);
        due.refused(x, "leaves the turn", x.turn(0, 1), 9);
        x.mishap(0, 2, 0, 0, 0);
        due.done(x, "set", x.set(0, 1, 1));
        due.done(x, "the first turn again", x.turn(0, 1), 1);
        numbers(x, "behind turn 1", 5);
        due.done(x, "the second", x.turn(0, 1), 2);
        numbers(x, "mishaps stay, and turn 2 has come again", 4);
    }

    private static void soManyTurns() {
        due.sentence("So many TURNS (1 to 200) are done: which TURN it is then (2; 5; 9: beyond 1,000).");
        WheelTables x = Works.with(2, 10, 10, 10);
        Works.lay(x, 0, 1, 1);
        due.refused(x, "0 turns", x.turn(0, 0), 5);
        due.refused(x, "-1 turns", x.turn(0, -1), 5);
        due.refused(x, "201 turns", x.turn(0, 201), 5);
        numbers(x, "nothing is turned", 0, 1);
        due.done(x, "1 turn", x.turn(0, 1), 1);
        numbers(x, "one", 1, 1);
        due.done(x, "200 turns", x.turn(0, 200), 201);
        numbers(x, "two hundred", 201, 1);
    }

    private static void lastTurn() {
        due.sentence("So many TURNS (1 to 200) are done: which TURN it is then (2; 5; 9: beyond 1,000).");
        due.sentence("9 it can't be.");
        WheelTables x = Works.with(2, 10, 10, 10, 10);
        Works.lay(x, 0, 1, 1);
        Works.turnOn(x, 0, 801);
        due.refused(x, "to turn 1,001", x.turn(0, 200), 9);
        numbers(x, "nothing is turned", 801, 1);
        due.done(x, "to turn 1,000", x.turn(0, 199), 1000);
        due.refused(x, "one more", x.turn(0, 1), 9);
        numbers(x, "a thousand", 1000, 1);
        x.engine(2, 1, 0);
        due.done(x, "another engine counts its own", x.turn(1, 1), 1);
        due.done(x, "a wheel can be put still", x.put(0, 0, 0, 1));
        due.refused(x, "that moves no turn", x.turn(0, 1), 9);
    }

    private static void rowsOfASheet() {
        due.sentence("A SHEET: the NUMBERS on AXIS 0 behind each of the next r TURNS (1 to 60).");
        due.sentence("A SHEET of r rows comes to a TRAY from place 0 on, cut to its sort"
            + " (1; 2; 3; 5: r; 4; 9: beyond TURN 1,000; in this order).");
        WheelTables x = Works.with(2, 10, 10, 10);
        Works.lay(x, 0, 1, 3);
        x.tray(1, 2, 60);
        due.refused(x, "no rows", x.sheet(0, 1, 0), 5);
        due.refused(x, "-1 rows", x.sheet(0, 1, -1), 5);
        due.refused(x, "61 rows", x.sheet(0, 1, 61), 5);
        numbers(x, "nothing is turned", 0);
        due.done(x, "60 rows", x.sheet(0, 1, 60));
        for (int row = 0; row < 60; row++) {
            due.is("row " + row, x.read(1, row), 3 * (row + 1));
        }
        due.done(x, "one row", x.sheet(0, 1, 1));
        due.done(x, "in place 0", x.read(1, 0), 183);
        due.done(x, "place 1 stays", x.read(1, 1), 6);
        due.done(x, "61 turns are done", x.turn(0, 1), 62);
        x.tray(1, 2, 2);
        due.done(x, "as many rows as places", x.sheet(0, 1, 2));
        due.refused(x, "one place too few", x.sheet(0, 1, 3), 4);
        due.done(x, "a refused sheet turns nothing", x.turn(0, 1), 65);
        due.done(x, "and writes nothing", x.read(1, 0), 3 * 63);
        x.tray(1, 2, 0);
        due.refused(x, "an empty tray", x.sheet(0, 1, 1), 4);
    }

    private static void sheetToTheLastTurn() {
        due.sentence("9: beyond TURN 1,000; in this order).");
        WheelTables x = Works.with(2, 10, 10, 10, 10);
        Works.lay(x, 0, 1, 1);
        x.tray(1, 2, 60);
        Works.turnOn(x, 0, 941);
        due.refused(x, "60 rows to turn 1,001", x.sheet(0, 1, 60), 9);
        due.done(x, "nothing is written", x.read(1, 0), 0);
        due.done(x, "nothing is turned", x.turn(0, 1), 942);
        due.done(x, "58 rows to turn 1,000", x.sheet(0, 1, 58));
        due.done(x, "the last row", x.read(1, 57), 1000);
        due.refused(x, "one row more", x.sheet(0, 1, 1), 9);
        due.done(x, "the first row stays", x.read(1, 0), 943);
    }

    private static void sheetCutToItsSort() {
        due.sentence("A SHEET of r rows comes to a TRAY from place 0 on, cut to its sort");
        for (int sort = 0; sort < 4; sort++) {
            long greatest = Long.MAX_VALUE >> 64 - (8 << Math.min(sort, 2));
            WheelTables x = Works.with(2, Works.times(12, 12));
            layInTwelves(x, 0, greatest - 1);
            layInTwelves(x, 1, 1);
            x.tray(1, sort, 2);
            due.done(x, "two rows", x.sheet(0, 1, 2));
            due.done(x, "the greatest number of the sort", x.read(1, 0), greatest);
            due.done(x, "one more", x.read(1, 1), sort < 3 ? -greatest - 1 : greatest + 1);
            numbers(x, "the axis itself is not cut", greatest + 1, 1);
        }
    }

    private static void layInTwelves(WheelTables x, int axis, long number) {
        long left = number;
        for (int wheel = 0; wheel < 12; wheel++) {
            x.put(0, axis, wheel, (int) (left % 12));
            left /= 12;
        }
    }
}
