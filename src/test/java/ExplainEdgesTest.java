/** The edges of explain, because and finer, sentence by sentence: promises 16 to 18, and their "Terms". */
final class ExplainEdgesTest extends SheetAsks {
    /** Seven axes in which carries come to many wheels, and stay away from others. */
    private static final int[][] FIGURES = {{8, 9, 3}, {7, 5, 6}, {9, 4, 8}, {6, 9, 1}, {5, 8, 7}, {2, 3, 2}, {4, 6, 5}};

    public static void main(String[] args) {
        rowsOfASheet();
        byNone();
        byNoneOfAllThese();
        theFirstByTurn();
        theFirstByAxis();
        theFirstByWheel();
        theFirstByKind();
        everyAxisWheelAndKind();
        roundAll();
        asIfNoneWereTold();
        numbersCutToTheSort();
        lastAxis();
        enginesOneAfterTheOther();
        engineStays();
        behindTheLastTurn();
        whatExplainToldLatest();
        finerInReach();
        finerNumbers();
        halfUp();
        tablesOneAfterTheOther();
        leastFigures();
        due.end();
    }

    private static void rowsOfASheet() {
        due.sentence("How a SHEET in a TRAY, r rows, is EXPLAINED: 0 by none, 1 by one MISHAP"
            + " (the ENGINE stays as it is) (1; 2; 3; 5: r; 4; 8; in this order).");
        WheelTables x = Works.with(2, 10, 10, 10);
        Works.lay(x, 0, 1, 3);
        long[] rows = new long[60];
        for (int row = 0; row < 60; row++) {
            rows[row] = 3 * (row + 1);
        }
        Works.fill(x, 2, 3, rows);
        due.refused(x, "no rows", x.explain(0, 2, 0), 5);
        due.refused(x, "61 rows", x.explain(0, 2, 61), 5);
        due.done(x, "1 row", x.explain(0, 2, 1), 0);
        due.done(x, "60 rows", x.explain(0, 2, 60), 0);
        x.write(2, 59, 189);
        due.done(x, "59 rows", x.explain(0, 2, 59), 0);
        explained(x, "180 slips in the 60th", 60, 60, 0, 0, 0);
        x.write(2, 59, 999);
        due.done(x, "a row that is not asked for", x.explain(0, 2, 59), 0);
        due.refused(x, "a row that is", x.explain(0, 2, 60), 8);
        Works.fill(x, 2, 3, 3, 6);
        due.done(x, "as many rows as numbers", x.explain(0, 2, 2), 0);
        due.refused(x, "one number too few", x.explain(0, 2, 3), 4);
        x.tray(2, 3, 0);
        due.refused(x, "an empty tray", x.explain(0, 2, 1), 4);
        Works.fill(x, 2, 3, 2);
        explained(x, "1 row, and the first turn slips", 1, 1, 0, 0, 0);
    }

    private static void byNone() {
        due.sentence("as if no MISHAPS were told: by none (0)");
        WheelTables x = squares();
        Works.fill(x, 2, 3, 1, 4, 9);
        // a stick of wheel 2 in any of these turns would explain it as well: no carry comes there
        due.done(x, "none ahead of one that does nothing", x.explain(0, 2, 3), 0);
        due.refused(x, "there is none to tell of", x.because(0), 8);
    }

    private static void byNoneOfAllThese() {
        due.sentence("or by none of all these.");
        due.sentence("8 there is none (no TEXT, copy, EXPLANATION).");
        WheelTables x = squares();
        Works.fill(x, 2, 3, 0, 3, 7);
        due.refused(x, "two mishaps", x.explain(0, 2, 3), 8);
        due.done(x, "the first of them alone", x.explain(0, 2, 2), 1);
        Works.fill(x, 2, 3, -1, 4, 9);
        due.refused(x, "what no axis shows", x.explain(0, 2, 3), 8);
        Works.fill(x, 2, 3, 1001, 4, 9);
        due.refused(x, "ALL and 1", x.explain(0, 2, 3), 8);
    }

    private static void theFirstByTurn() {
        due.sentence("by one MISHAP: the first, by TURN (those to come: 1 for the next ..), AXIS, wheel, kind");
        WheelTables x = squares();
        Works.fill(x, 2, 3, 1, 3, 8);
        explained(x, "axis 1 in turn 1, ahead of axis 0 in turn 2", 2, 1, 1, 0, 0);
        explained(x, "the third row tells them apart", 3, 2, 0, 0, 0);
        x.turn(0, 5);
        Works.fill(x, 2, 3, 36, 49, 63);
        explained(x, "1 for the next one", 3, 2, 1, 0, 0);
        Works.fill(x, 2, 3, 35, 48, 63);
        explained(x, "the next one", 3, 1, 0, 0, 0);
    }

    private static void theFirstByAxis() {
        due.sentence("by one MISHAP: the first, by TURN (those to come: 1 for the next ..), AXIS, wheel, kind");
        // weights 64 of wheel 6, 448 of wheel 7; 448 and 192 are the same in 8 bits
        WheelTables x = Works.with(4, 2, 2, 2, 2, 2, 2, 7, 2, 2, 2);
        x.put(0, 1, 7, 1);
        x.put(0, 2, 6, 1);
        x.put(0, 3, 6, 3);
        // 448, then 448 and 704; wheel 7 of axis 1 slips: 448 and 256; wheel 6 of axis 2 jams: 448 and 512
        Works.fill(x, 2, 0, 448, 704);
        explained(x, "wheel 7 of axis 1, ahead of wheel 6 of axis 2", 2, 1, 1, 7, 0);
        Works.fill(x, 2, 1, 448, 960);
        explained(x, "16 bits tell them apart", 2, 1, 2, 6, 2);
    }

    private static void theFirstByWheel() {
        due.sentence("by one MISHAP: the first, by TURN (those to come: 1 for the next ..), AXIS, wheel, kind");
        WheelTables x = Works.with(2, 2, 2, 2, 2, 2, 2, 7, 2);
        x.put(0, 0, 7, 1);
        x.put(0, 1, 6, 3);
        // 640; wheel 6 jams: 448; wheel 7 slips: 192
        Works.fill(x, 2, 0, 192);
        explained(x, "wheel 6 jams, ahead of wheel 7 that slips", 1, 1, 0, 6, 2);
        Works.fill(x, 2, 1, 192);
        explained(x, "16 bits tell them apart", 1, 1, 0, 7, 0);
    }

    private static void theFirstByKind() {
        due.sentence("by one MISHAP: the first, by TURN (those to come: 1 for the next ..), AXIS, wheel, kind");
        WheelTables x = Works.with(2, 10, 10, 10);
        Works.lay(x, 0, 0, 5, 8);
        Works.lay(x, 0, 1, 5, 1);
        Works.fill(x, 2, 3, 90);
        // 85 and 15 is 100; a slip of wheel 1 would be 190
        explained(x, "a carry that sticks, ahead of a 1 that jams", 1, 1, 0, 1, 1);
        Works.fill(x, 2, 3, 190);
        explained(x, "a slip from 0", 1, 1, 0, 1, 0);
        Works.lay(x, 0, 0, 0, 7);
        Works.fill(x, 2, 3, 75);
        explained(x, "a slip, ahead of a 1 that jams", 1, 1, 0, 1, 0);
    }

    /** What each mishap of seven axes does to a sheet, and how PlainWorks, which tries all, explains it. */
    private static void everyAxisWheelAndKind() {
        due.sentence("by one MISHAP: the first, by TURN (those to come: 1 for the next ..), AXIS, wheel, kind");
        int[] told = new int[3];
        for (int axis = 0; axis < 6; axis++) {
            for (int i = 0; i < 18; i++) {
                long by = explainedAsPlainly(1 + i / 9, axis, i % 9 / 3, i % 3);
                if (by != -1) {
                    told[(int) by]++;
                }
            }
        }
        for (int kind = 0; kind < 3; kind++) {
            due.is("some are of kind " + kind, told[kind] > 2, true);
        }
    }

    /** The kind that is told; -1 if none is. */
    private static long explainedAsPlainly(int turn, int axis, int wheel, int kind) {
        WheelTables x = sevenAxes();
        x.mishap(0, turn, axis, wheel, kind);
        x.tray(2, 3, 8);
        x.sheet(0, 2, 8);
        WheelTables y = sevenAxes();
        PlainWorks plain = plainSevenAxes();
        y.tray(2, 3, 8);
        plain.tray(2, 3, 8);
        for (int row = 0; row < 8; row++) {
            y.write(2, row, x.read(2, row));
            plain.write(2, row, x.read(2, row));
        }
        String of = "turn " + turn + ", axis " + axis + ", wheel " + wheel + ", kind " + kind;
        due.is(of + ": explained", y.explain(0, 2, 8), plain.explain(0, 2, 8));
        for (int what = 0; what < 4; what++) {
            due.is(of + ": because(" + what + ")", y.because(what), plain.because(what));
        }
        return plain.because(3);
    }

    private static WheelTables sevenAxes() {
        WheelTables x = Works.with(7, 10, 10, 10);
        for (int i = 0; i < 21; i++) {
            x.put(0, i / 3, i % 3, FIGURES[i / 3][i % 3]);
        }
        return x;
    }

    private static PlainWorks plainSevenAxes() {
        PlainWorks plain = new PlainWorks();
        plain.tray(0, 3, 3);
        for (int i = 0; i < 3; i++) {
            plain.write(0, i, 10);
        }
        plain.engine(7, 3, 0);
        for (int i = 0; i < 21; i++) {
            plain.put(0, i / 3, i % 3, FIGURES[i / 3][i % 3]);
        }
        return plain;
    }

    private static void roundAll() {
        due.sentence("ALL is one more than the greatest.");
        WheelTables x = Works.with(2, 10, 10);
        Works.lay(x, 0, 0, 5, 9);
        Works.lay(x, 0, 1, 3);
        // 98, 1 and 4 without a mishap; wheel 0 slips to 97
        Works.fill(x, 2, 3, 97, 0, 3);
        explained(x, "over ALL behind a slip", 3, 1, 0, 0, 0);
        // wheel 1 slips from 0 to 9
        Works.fill(x, 2, 3, 98, 91, 94, 97, 0);
        explained(x, "over ALL behind a slip from 0", 5, 2, 0, 1, 0);
        x = Works.with(3, 10, 10);
        Works.lay(x, 0, 1, 0, 1);
        // axis 1 slips from 10 to 00, or its wheel 0 from 10 to 19
        Works.fill(x, 2, 3, 10, 10, 10, 10);
        explained(x, "an axis that stands still", 4, 1, 1, 1, 0);
        Works.fill(x, 2, 3, 10, 29, 48, 67, 86, 5, 24);
        explained(x, "nine more in each turn, over ALL", 7, 1, 1, 0, 0);
        x = Works.with(2, 10, 10);
        Works.lay(x, 0, 0, 9, 9);
        Works.lay(x, 0, 1, 9, 9);
        Works.fill(x, 2, 3, 98, 97, 86, 85);
        explained(x, "a slip, among numbers that fall", 4, 3, 0, 1, 0);
        Works.fill(x, 2, 3, 98, 97, 6, 5);
        explained(x, "a 9 that jams on wheel 1", 4, 3, 0, 1, 2);
        Works.fill(x, 2, 3, 98, 97, 96, 95);
        due.done(x, "and none", x.explain(0, 2, 4), 0);
    }

    private static void asIfNoneWereTold() {
        due.sentence("as if no MISHAPS were told");
        WheelTables x = squares();
        for (int i = 1; i <= 20; i++) {
            x.mishap(0, i, 0, 0, 0);
        }
        Works.fill(x, 2, 3, 1, 4, 9);
        due.done(x, "twenty mishaps are told", x.explain(0, 2, 3), 0);
        due.refused(x, "and are told still", x.mishap(0, 1, 0, 0, 0), 7);
        x.turn(0, 1);
        due.done(x, "and happen", x.number(0, 0), 0);
    }

    private static void numbersCutToTheSort() {
        due.sentence("EXPLAINED is a SHEET in a TRAY (NUMBERS cut to its sort) by an ENGINE as it stands");
        for (int sort = 0; sort < 3; sort++) {
            long greatest = Long.MAX_VALUE >> 64 - (8 << sort);
            WheelTables x = Works.with(2, Works.times(12, 12));
            long left = greatest - 1;
            for (int wheel = 0; wheel < 12; wheel++) {
                x.put(0, 0, wheel, (int) (left % 12));
                left /= 12;
            }
            Works.lay(x, 0, 1, 1);
            Works.fill(x, 2, sort, greatest, -greatest - 1);
            due.done(x, "the greatest of sort " + sort + ", and one more", x.explain(0, 2, 2), 0);
            Works.fill(x, 2, 3, greatest, -greatest - 1);
            due.refused(x, "not so in 64 bits", x.explain(0, 2, 2), 8);
            Works.fill(x, 2, 3, greatest, greatest + 1);
            due.done(x, "but so", x.explain(0, 2, 2), 0);
        }
    }

    private static void lastAxis() {
        due.sentence("in a TURN (1 to 1,000), of an AXIS but the last, a wheel");
        WheelTables x = Works.with(2, 10, 10);
        Works.lay(x, 0, 1, 3);
        // a slip of axis 1 in turn 1: 3 and 2
        Works.fill(x, 2, 3, 3, 5, 7);
        due.refused(x, "the last axis has no mishaps", x.explain(0, 2, 3), 8);
        x = Works.with(3, 10, 10);
        Works.lay(x, 0, 1, 3);
        Works.fill(x, 2, 3, 3, 5, 7);
        explained(x, "it is not the last of three", 3, 1, 1, 0, 0);
    }

    private static void enginesOneAfterTheOther() {
        due.sentence("by an ENGINE as it stands");
        WheelTables x = sevenAxes();
        for (int axes = 6; axes >= 2; axes -= 2) {
            Works.fill(x, 1, 3, 10, 10, 10);
            int engine = x.engine(axes, 3, 1);
            x.put(engine, 0, 0, 5);
            Works.fill(x, 2, 3, 5, 5, 5, 5);
            due.refused(x, "the engine of seven axes", x.explain(0, 2, 4), 8);
            due.done(x, "one of " + axes + " axes that stand still", x.explain(engine, 2, 4), 0);
        }
    }

    private static void engineStays() {
        due.sentence("(the ENGINE stays as it is)");
        WheelTables x = squares();
        x.turn(0, 3);
        Works.fill(x, 2, 3, 16, 24, 35);
        explained(x, "a slip", 3, 2, 0, 0, 0);
        due.done(x, "axis 0", x.number(0, 0), 9);
        due.done(x, "axis 1", x.number(0, 1), 7);
        due.done(x, "axis 2", x.number(0, 2), 2);
        due.done(x, "the tray", x.read(2, 1), 24);
        due.done(x, "the next turn", x.turn(0, 1), 4);
        due.done(x, "without a slip", x.number(0, 0), 16);
        due.done(x, "and the one behind it", x.turn(0, 1), 5);
        due.done(x, "that has no mishap", x.number(0, 0), 25);
    }

    private static void behindTheLastTurn() {
        due.sentence("(the ENGINE stays as it is) (1; 2; 3; 5: r; 4; 8; in this order).");
        WheelTables x = Works.with(2, 10, 10);
        Works.lay(x, 0, 1, 1);
        Works.turnOn(x, 0, 1000);
        Works.fill(x, 2, 3, 1, 2, 2);
        due.done(x, "there is no 9: nothing is turned", x.explain(0, 2, 2), 0);
        explained(x, "nor for a mishap", 3, 3, 0, 0, 0);
        due.refused(x, "turn 1,000 it is", x.turn(0, 1), 9);
    }

    private static void whatExplainToldLatest() {
        due.sentence("Of the MISHAP that explain() told latest, what 0: TURN (1 for the next one then), 1: AXIS,"
            + " 2: wheel, 3: kind (5; 8: none).");
        WheelTables x = squares();
        due.refused(x, "ahead of any", x.because(0), 8);
        due.refused(x, "what 3, ahead of any", x.because(3), 8);
        due.refused(x, "what 4 ahead of none", x.because(4), 5);
        due.refused(x, "what -1", x.because(-1), 5);
        Works.fill(x, 2, 3, 1, 3, 8);
        explained(x, "a slip", 3, 2, 0, 0, 0);
        x.turn(0, 1);
        due.done(x, "1 for the next one then, not now", x.because(0), 2);
        due.refused(x, "what 4", x.because(4), 5);
        due.refused(x, "too few rows", x.explain(0, 2, 4), 4);
        due.done(x, "leave what was told", x.because(0), 2);
        due.refused(x, "no explanation", x.explain(0, 2, 3), 8);
        due.done(x, "leaves what was told", x.because(0), 2);
        Works.fill(x, 2, 3, 4, 9, 15);
        explained(x, "another slip", 3, 2, 1, 0, 0);
        Works.fill(x, 2, 3, 4);
        due.done(x, "by none", x.explain(0, 2, 1), 0);
        for (int what = 0; what < 4; what++) {
            due.refused(x, "none is told, what " + what, x.because(what), 8);
        }
    }

    private static void finerInReach() {
        due.sentence("FINER: from values p at 0 to k (k 1 to 4; -10,000 to 10,000 each)");
        due.sentence("NEEDED by values in a TRAY, the first k and 1"
            + " (1; 3; 5: k, m, r; 4; 5: a number; 8: more than 6; in this order).");
        WheelTables x = new WheelTables();
        for (int k = 1; k <= 4; k++) {
            Works.fill(x, 0, 1, Works.times(k + 1, 7));
            due.done(x, "k of " + k + ", as many values as it needs", x.finer(0, k, 2, 60), 0);
            Works.fill(x, 0, 1, Works.times(k, 7));
            due.refused(x, "one too few", x.finer(0, k, 2, 60), 4);
        }
        Works.fill(x, 0, 1, Works.times(60, 7));
        due.refused(x, "k of 0", x.finer(0, 0, 2, 1), 5);
        due.refused(x, "k of 5", x.finer(0, 5, 2, 1), 5);
        due.sentence("a table at 0, 1 by m, 2 by m .. (m 2 to 20), r values (1 to 60)");
        due.refused(x, "m of 1", x.finer(0, 1, 1, 1), 5);
        due.refused(x, "m of 21", x.finer(0, 1, 21, 1), 5);
        due.refused(x, "r of 0", x.finer(0, 1, 2, 0), 5);
        due.refused(x, "r of 61", x.finer(0, 1, 2, 61), 5);
        due.done(x, "m of 2, r of 1", x.finer(0, 1, 2, 1), 0);
        due.done(x, "m of 20, r of 60", x.finer(0, 4, 20, 60), 0);
        // by twentieths: 0.05, with no figures 0 throughout; 0.5 at the 11th value is 1
        Works.fill(x, 0, 1, 0, 1);
        due.done(x, "ten values below a half", x.finer(0, 1, 20, 10), 0);
        due.done(x, "the eleventh is a half", x.finer(0, 1, 20, 11), 2);
    }

    private static void finerNumbers() {
        due.sentence("FINER: from values p at 0 to k (k 1 to 4; -10,000 to 10,000 each)");
        WheelTables x = new WheelTables();
        for (int at = 0; at <= 4; at++) {
            for (int far : new int[] {10000, -10000}) {
                Works.fill(x, 0, 3, 0, 0, 0, 0, 0);
                x.write(0, at, far);
                due.done(x, far + " as value " + at, x.finer(0, 4, 2, 1), 0);
                x.write(0, at, far + Integer.signum(far));
                due.refused(x, "one further", x.finer(0, 4, 2, 1), 5);
                x.write(0, at, (1L << 32) * Integer.signum(far));
                due.refused(x, "what an int would cut to 0", x.finer(0, 4, 2, 1), 5);
                if (at > 1) {
                    due.done(x, "a number that is not asked for", x.finer(0, at - 1, 2, 1), 0);
                }
            }
        }
    }

    private static void halfUp() {
        due.sentence("r values (1 to 60), each rounded to the nearest whole number (a half up).");
        WheelTables x = new WheelTables();
        // 0, 1 by 2, 1: with no figures the axis of 1 by 2 is 1, so 0, 1, 2
        Works.fill(x, 0, 1, 0, 1);
        due.done(x, "a half is 1", x.finer(0, 1, 2, 2), 0);
        due.done(x, "and 2 is not 1", x.finer(0, 1, 2, 3), 1);
        // 0, -1 by 2, -1: with no figures the axis of -1 by 2 is 0, so 0, 0, 0
        Works.fill(x, 0, 1, 0, -1);
        due.done(x, "half of -1 is 0", x.finer(0, 1, 2, 2), 0);
        due.done(x, "and 0 is not -1", x.finer(0, 1, 2, 3), 1);
        due.sentence("an ENGINE without ends is SET to 10 to the d times what would be exact, each AXIS rounded so;"
            + " the values told are its NUMBERS by 10 to the d, rounded so.");
        // 5 by 6 is 1 with no figures: 0, 1, 2, 3, and then 4, which is not 3.33; with figures it is 0.83 and less
        // than exact, and three of them are less than 2.5, which is 3
        Works.fill(x, 0, 1, 0, 5);
        due.done(x, "0, 1, 2, 3", x.finer(0, 1, 6, 4), 0);
        due.refused(x, "2.49 is never 3", x.finer(0, 1, 6, 5), 8);
        // 1 by 6 is 0.17 and more than exact: 0.51 is 1 as 0.5 is; of -1 by 6 it is -0.51, and -0.5 is 0
        Works.fill(x, 0, 1, 0, 1);
        due.done(x, "0.5 is 1", x.finer(0, 1, 6, 4), 1);
        Works.fill(x, 0, 1, 0, -1);
        due.done(x, "0 throughout", x.finer(0, 1, 6, 4), 0);
        due.refused(x, "-0.51 is never 0", x.finer(0, 1, 6, 5), 8);
        due.sentence("8: more than 6; in this order).");
        Works.fill(x, 0, 1, 0, -10000);
        due.done(x, "without ends, below 0 too", x.finer(0, 1, 2, 60), 0);
    }

    private static void tablesOneAfterTheOther() {
        due.sentence("by the polynomial of degree k at most through them");
        WheelTables x = new WheelTables();
        Works.fill(x, 0, 1, 10000, -9999, 9998, -9997, 9996);
        for (int k = 1; k <= 3; k++) {
            x.finer(0, 4, 19, 60);
            Works.fill(x, 1, 1, 7, 7, 7, 7, 7);
            due.done(x, "a table that stands still, k of " + k, x.finer(1, k, 19, 60), 0);
            x.finer(0, 4, 19, 60);
            Works.fill(x, 1, 1, 0, 1, 2, 3, 4);
            due.done(x, "thirds, k of " + k, x.finer(1, k, 3, 3), 1);
        }
        Works.fill(x, 1, 1, 0, 1, 2, 9999);
        due.done(x, "values behind the first k and 1 are not asked for", x.finer(1, 2, 3, 3), 1);
    }

    private static void leastFigures() {
        due.sentence("With d figures more (0 to 6)");
        due.sentence("NEEDED: the least d with which all r values are right.");
        WheelTables x = new WheelTables();
        Works.fill(x, 0, 1, 5, 5, 5, 5, 5);
        due.done(x, "0", x.finer(0, 4, 7, 60), 0);
        // worked out with exact fractions by PlainWorks
        PlainWorks plain = new PlainWorks();
        long[][] tables = {{0, 1}, {0, 1, 4}, {3, 1, 4, 1}, {0, 0, 1, 0, 0}, {0, 1, 16, 81, 256},
            {10000, -10000, 10000, -10000, 10000}};
        boolean[] seen = new boolean[8];
        for (long[] table : tables) {
            int k = table.length - 1;
            Works.fill(x, 0, 2, table);
            plain.tray(0, 2, k + 1);
            for (int i = 0; i <= k; i++) {
                plain.write(0, i, table[i]);
            }
            for (int m = 2; m <= 20; m += k < 3 ? 6 : 3) {
                long want = plain.finer(0, k, m, 60);
                due.is("finer(0, " + k + ", " + m + ", 60)", x.finer(0, k, m, 60), want);
                due.is("status() behind that", x.status(), plain.status);
                seen[want == -1 ? 7 : (int) want] = true;
            }
        }
        for (int d = 2; d <= 7; d++) {
            due.is("one of these needs " + d, seen[d], true);
        }
    }
}
