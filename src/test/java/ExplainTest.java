/** Promises 16 to 18: explain, because, finer. */
final class ExplainTest extends SheetAsks {
    public static void main(String[] args) {
        explainsEveryKind();
        takesTheFirst();
        explainsTheEngineAsItStands();
        cutsToTheSort();
        keepsWhatWasTold();
        refusesToExplain();
        goesBeyondTheLastTurn();
        finds();
        roundsAHalfUp();
        refusesFinerTables();
        due.end();
    }

    private static void explainsEveryKind() {
        WheelTables x = squares();
        Works.fill(x, 2, 3, 1, 4, 9, 16, 25);
        due.done(x, "by none", x.explain(0, 2, 5), 0);
        Works.fill(x, 2, 3, 1, 4, 9, 15, 24);
        explained(x, "a slip of axis 0", 5, 4, 0, 0, 0);
        Works.fill(x, 2, 3, 1, 4, 4, 11, 20);
        explained(x, "figure 5 jams", 5, 3, 0, 0, 2);
        Works.fill(x, 2, 3, 1, 4, 9, 14, 21);
        explained(x, "2 jams on axis 1, that has come to 9 less 2", 5, 3, 1, 0, 2);
        due.done(x, "the engine stays as it is", x.number(0, 0), 0);
        due.done(x, "its turn, too", x.turn(0, 1), 1);
        Works.fill(x, 1, 3, 98, 99);
        x.set(0, 1, 2);
        Works.fill(x, 2, 3, 99, 90, 91);
        explained(x, "a carry that sticks on its way", 3, 2, 0, 1, 1);
    }

    private static void takesTheFirst() {
        WheelTables x = squares();
        // turn 1: axis 0 goes from 0 to 1; a slip to 0 and a jam of figure 1 come to the same
        Works.fill(x, 2, 3, 0, 3, 8);
        explained(x, "the lesser kind", 3, 1, 0, 0, 0);
        Works.fill(x, 2, 3, 1, 4, 4);
        explained(x, "in the last turn", 3, 3, 0, 0, 2);
        x.put(0, 1, 0, 0);
        x.put(0, 2, 0, 0);
        Works.fill(x, 2, 3, 0, 0, 9);
        explained(x, "the lesser turn ahead of the lesser axis", 3, 2, 1, 0, 0);
        Works.fill(x, 2, 3, 0, 0, 0, 9, 9);
        explained(x, "it does not go on like that", 5, 4, 0, 0, 0);
        Works.fill(x, 2, 3, 0, 9, 18);
        explained(x, "a slip of axis 1 in turn 1 shows in turn 2", 3, 1, 1, 0, 0);
    }

    private static void explainsTheEngineAsItStands() {
        WheelTables x = squares();
        x.turn(0, 2);
        x.mishap(0, 3, 0, 0, 0);
        x.mishap(0, 4, 0, 1, 0);
        Works.fill(x, 2, 3, 9, 16, 25);
        due.done(x, "as if no mishaps were told", x.explain(0, 2, 3), 0);
        Works.fill(x, 2, 3, 9, 15, 24);
        explained(x, "turns are counted from here", 3, 2, 0, 0, 0);
        x.tray(2, 3, 3);
        x.sheet(0, 2, 1);
        due.done(x, "the mishaps are told all the same", x.read(2, 0), 8);
    }

    private static void cutsToTheSort() {
        WheelTables x = new WheelTables();
        Works.fill(x, 0, 0, 2, 2, 2, 2, 2, 2, 2, 2, 2, 2);
        x.engine(2, 10, 0);
        Works.fill(x, 1, 3, 250, 255);
        x.set(0, 1, 2);
        Works.fill(x, 2, 0, -1, 4, 9);
        due.done(x, "255, 260, 265 in 8 bits", x.explain(0, 2, 3), 0);
        Works.fill(x, 2, 1, -1, 4, 9);
        due.refused(x, "not so in 16 bits", x.explain(0, 2, 3), 8);
        Works.fill(x, 2, 0, -1, 4, 11);
        explained(x, "wheel 1 slips", 3, 3, 0, 1, 0);
    }

    private static void keepsWhatWasTold() {
        WheelTables x = squares();
        due.refused(x, "because ahead of any", x.because(0), 8);
        Works.fill(x, 2, 3, 1, 3, 8);
        x.explain(0, 2, 3);
        Works.fill(x, 2, 3, 7, 7, 7);
        due.refused(x, "no explanation", x.explain(0, 2, 3), 8);
        due.done(x, "what was told stays", x.because(0), 2);
        due.refused(x, "because(4)", x.because(4), 5);
        due.refused(x, "because(-1)", x.because(-1), 5);
        Works.fill(x, 2, 3, 1, 4, 9);
        due.done(x, "by none", x.explain(0, 2, 3), 0);
        due.refused(x, "then there is none", x.because(0), 8);
        due.refused(x, "a wrong what comes first", x.because(4), 5);
    }

    private static void refusesToExplain() {
        WheelTables x = squares();
        Works.fill(x, 2, 3, 1, 4, 9);
        due.refused(x, "no such tray, no such engine", x.explain(1, 4, 0), 1);
        due.refused(x, "no such engine, a missing tray", x.explain(1, 3, 0), 2);
        due.refused(x, "a missing tray, no rows", x.explain(0, 3, 0), 3);
        due.refused(x, "no rows", x.explain(0, 2, 0), 5);
        due.refused(x, "61 rows", x.explain(0, 2, 61), 5);
        due.refused(x, "too few", x.explain(0, 2, 4), 4);
    }

    private static void goesBeyondTheLastTurn() {
        WheelTables x = squares();
        for (int i = 0; i < 5; i++) {
            x.turn(0, 200);
        }
        Works.fill(x, 2, 3, 1, 4, 8, 15);
        explained(x, "it is only thought, not turned", 4, 3, 0, 0, 0);
    }

    private static void finds() {
        WheelTables x = new WheelTables();
        Works.fill(x, 1, 2, 0, 1, 4);
        due.done(x, "3 values", x.finer(1, 2, 2, 3), 0);
        due.done(x, "4 values", x.finer(1, 2, 2, 4), 1);
        due.done(x, "5 values", x.finer(1, 2, 2, 5), 1);
        due.done(x, "6 values", x.finer(1, 2, 2, 6), 2);
        due.done(x, "25 hundredths are exact", x.finer(1, 2, 2, 60), 2);
        Works.fill(x, 1, 2, 0, 1);
        // 1 by 3 is 0.33 with 2 figures: 0.33 * 50 is 16.5, which is 17 like 16.67; 0.3 * 5 is 1.5, right 1.67
        due.done(x, "thirds: 0, 0, 0", x.finer(1, 1, 3, 2), 0);
        due.done(x, "thirds: 0, 0, 1", x.finer(1, 1, 3, 3), 1);
        due.done(x, "thirds up to 14 by 3", x.finer(1, 1, 3, 15), 2);
        // these were worked out with exact fractions beside the program
        Works.fill(x, 1, 2, 0, 1, 16, 81, 256);
        due.done(x, "fourth powers by halves", x.finer(1, 4, 2, 60), 3);
        due.done(x, "fourth powers by thirds", x.finer(1, 4, 3, 20), 4);
        due.refused(x, "more of them need more than 6", x.finer(1, 4, 3, 60), 8);
        Works.fill(x, 1, 2, 3, 1, 4, 1);
        due.done(x, "just 6", x.finer(1, 3, 3, 60), 6);
        Works.fill(x, 1, 2, 0, 0, 1, 0, 0);
        due.done(x, "by nineteenths", x.finer(1, 4, 19, 60), 6);
        Works.fill(x, 1, 2, 10000, -10000, 10000, -10000, 10000);
        due.done(x, "the greatest values", x.finer(1, 4, 3, 60), 6);
        due.refused(x, "more than 6", x.finer(1, 4, 19, 60), 8);
    }

    private static void roundsAHalfUp() {
        WheelTables x = new WheelTables();
        // -1 by 2 is 0 and -3 by 2 is -1, if a half goes up; the axis of -1 by 2 is 0 then, and all values 0
        Works.fill(x, 1, 2, 0, -1);
        due.done(x, "0, -0.5", x.finer(1, 1, 2, 2), 0);
        due.done(x, "0, -0.5, -1", x.finer(1, 1, 2, 3), 1);
        Works.fill(x, 1, 2, 0, 1);
        // the axis of 1 by 2 is 1: the values 0, 1, 2; right are 0, 1, 1
        due.done(x, "0, 0.5", x.finer(1, 1, 2, 2), 0);
        due.done(x, "0, 0.5, 1", x.finer(1, 1, 2, 3), 1);
    }

    private static void refusesFinerTables() {
        WheelTables x = new WheelTables();
        due.refused(x, "no such tray", x.finer(4, 0, 2, 1), 1);
        due.refused(x, "a missing tray", x.finer(0, 0, 2, 1), 3);
        Works.fill(x, 0, 2, 10000, -10000);
        due.refused(x, "k of 0", x.finer(0, 0, 2, 1), 5);
        due.refused(x, "k of 5", x.finer(0, 5, 2, 1), 5);
        due.refused(x, "m of 1", x.finer(0, 1, 1, 1), 5);
        due.refused(x, "m of 21", x.finer(0, 1, 21, 1), 5);
        due.refused(x, "r of 0", x.finer(0, 1, 2, 0), 5);
        due.refused(x, "r of 61", x.finer(0, 4, 2, 61), 5);
        due.refused(x, "too few", x.finer(0, 2, 2, 1), 4);
        due.done(x, "the greatest numbers", x.finer(0, 1, 20, 60), 0);
        Works.fill(x, 0, 2, 10001, 0);
        due.refused(x, "a number too great", x.finer(0, 1, 2, 1), 5);
        due.refused(x, "too few comes first", x.finer(0, 2, 2, 1), 4);
        Works.fill(x, 0, 2, 0, -10001);
        due.refused(x, "a number too small", x.finer(0, 1, 2, 1), 5);
        Works.fill(x, 0, 2, 0, 0, 99999);
        due.done(x, "a number that is not asked for", x.finer(0, 1, 2, 1), 0);
    }
}
