/** The edges of LEAST turns and ERRATA, sentence by sentence: promises 26 to 29, and their "Terms". */
final class TurnsErrataEdgesTest extends TableAsks {
    private static final int[] POWERS = {1, 10, 100, 1000, 10000, 100000, 1000000, 10000000};

    public static void main(String[] args) {
        numbersInReach();
        figuresInReach();
        leastSum();
        theGreaterFigureFirst();
        tablesInReach();
        tablesOfSoManyValues();
        valuesInReach();
        smooth();
        oneFigure();
        twoNeighbours();
        neverTwoOfOne();
        fewest();
        theFirstValue();
        theLeastValue();
        whatErrataFoundLatest();
        due.end();
    }

    private static void numbersInReach() {
        due.sentence("LEAST turns for a number (0 to 999,999,999,999)");
        due.sentence("5 a number that can't be.");
        WheelTables x = new WheelTables();
        due.done(x, "turns(0)", x.turns(0), 0);
        due.done(x, "turns(999,999,999,999)", x.turns(999999999999L), 2);
        due.refused(x, "turns(-1)", x.turns(-1), 5);
        due.refused(x, "turns(1,000,000,000,000)", x.turns(1000000000000L), 5);
        due.refused(x, "turns of an int that wraps", x.turns(1L << 40), 5);
        due.done(x, "turnsAt(0, 0)", x.turnsAt(0, 0), 0);
        due.done(x, "turnsAt(999,999,999,999, 0)", x.turnsAt(999999999999L, 0), -1);
        due.refused(x, "turnsAt(-1, 0)", x.turnsAt(-1, 0), 5);
        due.refused(x, "turnsAt(1,000,000,000,000, 0)", x.turnsAt(1000000000000L, 0), 5);
    }

    private static void figuresInReach() {
        due.sentence("Figure k (0 to 12) of that (5); STATUS tells NONE from -1.");
        WheelTables x = new WheelTables();
        due.done(x, "figure 0", x.turnsAt(999999999999L, 0), -1);
        for (int k = 1; k < 12; k++) {
            due.done(x, "figure " + k, x.turnsAt(999999999999L, k), 0);
        }
        due.done(x, "figure 12", x.turnsAt(999999999999L, 12), 1);
        due.refused(x, "figure 13", x.turnsAt(999999999999L, 13), 5);
        due.refused(x, "figure -1", x.turnsAt(999999999999L, -1), 5);
        due.done(x, "figure 12 of 0", x.turnsAt(0, 12), 0);
        due.done(x, "figure 11 of the greatest that needs no twelfth", x.turnsAt(500000000000L, 11), 5);
        due.done(x, "figure 12 of that", x.turnsAt(500000000000L, 12), 0);
        due.done(x, "figure 11 of 600,000,000,000", x.turnsAt(600000000000L, 11), -4);
        due.done(x, "figure 12 of 600,000,000,000", x.turnsAt(600000000000L, 12), 1);
    }

    private static void figures(WheelTables x, long number, int... want) {
        int sum = 0;
        for (int k = 0; k < 13; k++) {
            int figure = k < want.length ? want[k] : 0;
            sum += Math.abs(figure);
            due.done(x, "turnsAt(" + number + ", " + k + ")", x.turnsAt(number, k), figure);
        }
        due.done(x, "turns(" + number + ")", x.turns(number), sum);
    }

    private static void leastSum() {
        due.sentence("figures d from the lowest on, each -9 to 9, so that the number is d0 and 10 d1 and 100 d2 ..,"
            + " with the least sum of sizes");
        for (int figure = 0; figure <= 5; figure++) {
            figures(new WheelTables(), figure, figure);
        }
        for (int figure = 6; figure <= 9; figure++) {
            figures(new WheelTables(), figure, figure - 10, 1);
        }
        figures(new WheelTables(), 10, 0, 1);
        figures(new WheelTables(), 11, 1, 1);
        figures(new WheelTables(), 19, -1, 2);
        figures(new WheelTables(), 49, -1, 5);
        figures(new WheelTables(), 59, -1, -4, 1);
        figures(new WheelTables(), 88, -2, -1, 1);
        figures(new WheelTables(), 89, -1, -1, 1);
        figures(new WheelTables(), 199, -1, 0, 2);
        figures(new WheelTables(), 908, -2, 1, -1, 1);
        figures(new WheelTables(), 99, -1, 0, 1);
        figures(new WheelTables(), 100, 0, 0, 1);
        figures(new WheelTables(), 101, 1, 0, 1);
    }

    private static void theGreaterFigureFirst() {
        due.sentence("of several the first from the lowest figure on with the greater one.");
        // 5, 5 or -5, -4, 1: 10 turns both; 5, 4 is 9 and -5, 5 is 10; 5, 6 and -5, -3, 1: 11 and 9
        figures(new WheelTables(), 45, 5, 4);
        figures(new WheelTables(), 55, 5, 5);
        figures(new WheelTables(), 65, -5, -3, 1);
        figures(new WheelTables(), 550, 0, 5, 5);
        figures(new WheelTables(), 5505, 5, 0, 5, 5);
        // 5, 9 goes on to 100: -5, 0, 1 is 6, and 5, -1, 1 is 7
        figures(new WheelTables(), 95, -5, 0, 1);
        figures(new WheelTables(), 555555555555L, -5, -4, -4, -4, -4, -4, -4, -4, -4, -4, -4, -4, 1);
        figures(new WheelTables(), 550000000000L, 0, 0, 0, 0, 0, 0, 0, 0, 0, 0, 5, 5);
        figures(new WheelTables(), 650000000000L, 0, 0, 0, 0, 0, 0, 0, 0, 0, 0, -5, -3, 1);
    }

    private static void tablesInReach() {
        due.sentence("ERRATA of a table of n values (3 to 20; 0 to 99,999,999 each, eight figures), order k"
            + " (1 to 4, below n), bound b (0 to 1,000)");
        WheelTables x = table(Works.times(60, 8));
        due.refused(x, "n of 2", x.errata(0, 2, 1, 0), 5);
        due.done(x, "n of 3", x.errata(0, 3, 1, 0), 0);
        due.done(x, "n of 20", x.errata(0, 20, 1, 0), 0);
        due.refused(x, "n of 21", x.errata(0, 21, 1, 0), 5);
        due.refused(x, "k of 0", x.errata(0, 20, 0, 0), 5);
        due.done(x, "k of 4", x.errata(0, 20, 4, 0), 0);
        due.refused(x, "k of 5", x.errata(0, 20, 5, 0), 5);
        due.done(x, "k of 2 below 3", x.errata(0, 3, 2, 0), 0);
        due.refused(x, "k of 3, not below 3", x.errata(0, 3, 3, 0), 5);
        due.done(x, "k of 3 below 4", x.errata(0, 4, 3, 0), 0);
        due.refused(x, "k of 4, not below 4", x.errata(0, 4, 4, 0), 5);
        due.done(x, "k of 4 below 5", x.errata(0, 5, 4, 0), 0);
        due.refused(x, "b of -1", x.errata(0, 3, 1, -1), 5);
        due.done(x, "b of 1,000", x.errata(0, 3, 1, 1000), 0);
        due.refused(x, "b of 1,001", x.errata(0, 3, 1, 1001), 5);
        due.refused(x, "n far too great", x.errata(0, Integer.MAX_VALUE, 1, 0), 5);
        due.refused(x, "all far too small", x.errata(0, Integer.MIN_VALUE, Integer.MIN_VALUE, Integer.MIN_VALUE), 5);
    }

    private static void tablesOfSoManyValues() {
        due.sentence("FEWEST values of a table in a TRAY to be put right"
            + " (1; 3; 5: n, k, b; 4; 5: a number; 8: more than 2; in this order).");
        WheelTables x = table(5, 5, 5, 9);
        due.done(x, "a value that is not asked for", x.errata(0, 3, 1, 0), 0);
        due.done(x, "as many values as there are", x.errata(0, 4, 1, 0), 1);
        found(x, 3, 5);
        due.refused(x, "one too few", x.errata(0, 5, 1, 0), 4);
        x.tray(1, 3, 0);
        due.refused(x, "an empty tray", x.errata(1, 3, 1, 0), 4);
    }

    private static void valuesInReach() {
        due.sentence("0 to 99,999,999 each, eight figures");
        for (int at = 0; at < 3; at++) {
            WheelTables x = table(99999999, 99999999, 99999999);
            due.done(x, "the greatest", x.errata(0, 3, 1, 0), 0);
            x.write(0, at, 100000000);
            due.refused(x, "one more as value " + at, x.errata(0, 3, 1, 1000), 5);
            x = table(0, 0, 0, 0);
            due.done(x, "the least", x.errata(0, 3, 1, 0), 0);
            x.write(0, at, -1);
            due.refused(x, "one less as value " + at, x.errata(0, 3, 1, 1000), 5);
            x.write(0, at, 1L << 32);
            due.refused(x, "what an int would cut to 0", x.errata(0, 3, 1, 1000), 5);
        }
        WheelTables x = table(0, 0, 0, -1);
        due.done(x, "a number that is not asked for", x.errata(0, 3, 1, 0), 0);
    }

    private static void smooth() {
        due.sentence("it is SMOOTH, if all its differences of order k are of a size of b at most.");
        // one difference of each order, and how often each value counts in it
        int[][] counts = {{1, -2, 1}, {-1, 3, -3, 1}, {1, -4, 6, -4, 1}};
        for (int[] count : counts) {
            for (int at = 0; at < count.length; at++) {
                long[] values = new long[count.length];
                values[at] = 12;
                int size = 12 * Math.abs(count[at]);
                WheelTables x = table(values);
                String of = "order " + (count.length - 1) + ", 12 as value " + at;
                due.done(x, of + ": a bound of " + size, x.errata(0, count.length, count.length - 1, size), 0);
                due.done(x, of + ": one less", x.errata(0, count.length, count.length - 1, size - 1), 1);
            }
        }
        WheelTables x = table(0, 1000, 0);
        due.done(x, "differences of 1,000 and -1,000", x.errata(0, 3, 1, 1000), 0);
        due.done(x, "a bound of 999", x.errata(0, 3, 1, 999), 1);
        found(x, 1, 0);
        // every difference counts: the first and the last of 19
        long[] ends = Works.times(20, 50);
        ends[0] = 53;
        x = table(ends);
        due.done(x, "the first difference, of the bound", x.errata(0, 20, 1, 3), 0);
        due.done(x, "and above it", x.errata(0, 20, 1, 2), 1);
        found(x, 0, 50);
        ends[0] = 50;
        ends[19] = 53;
        x = table(ends);
        due.done(x, "the last difference, of the bound", x.errata(0, 20, 1, 3), 0);
        due.done(x, "and above it", x.errata(0, 20, 1, 2), 1);
        // between 50 and 53 there is room for a 51, and value 18 comes ahead of 19
        found(x, 18, 51);
    }

    private static void oneFigure() {
        due.sentence("A CORRECTION of a value: one figure is another one");
        for (int p = 0; p < 8; p++) {
            for (int figure = 1; figure <= 9; figure++) {
                int wrong = figure * POWERS[p];
                WheelTables x = table(0, wrong, 0);
                due.done(x, "0 as " + wrong, x.errata(0, 3, 1, 0), 1);
                found(x, 1, 0);
                x = table(wrong, 0, wrong);
                due.done(x, wrong + " as 0", x.errata(0, 3, 1, 0), 1);
                found(x, 1, wrong);
            }
            int nines = 99999999;
            WheelTables x = table(nines, nines - 9 * POWERS[p], nines);
            due.done(x, "a 9 as a 0 in figure " + p, x.errata(0, 3, 1, 0), 1);
            found(x, 1, nines);
        }
    }

    private static void twoNeighbours() {
        due.sentence("or two neighbouring ones (that are unlike) are exchanged.");
        int right = 12345678;
        for (int p = 0; p < 7; p++) {
            int high = right / POWERS[p + 1] % 10;
            int low = right / POWERS[p] % 10;
            int exchanged = right + (low - high) * (POWERS[p + 1] - POWERS[p]);
            WheelTables x = table(right, exchanged, right);
            due.done(x, exchanged + " for " + right, x.errata(0, 3, 1, 0), 1);
            found(x, 1, right);
        }
        WheelTables x = table(10000000, 1000000, 10000000);
        due.done(x, "the highest may be 0", x.errata(0, 3, 1, 0), 1);
        found(x, 1, 10000000);
        x = table(1000000, 10000000, 1000000);
        due.done(x, "or become 0", x.errata(0, 3, 1, 0), 1);
        found(x, 1, 1000000);
        x = table(12345678, 12345876, 12345678);
        due.refused(x, "not neighbours: figures 0 and 2", x.errata(0, 3, 1, 0), 8);
        x = table(12345678, 82345671, 12345678);
        due.refused(x, "not neighbours: the first and the last", x.errata(0, 3, 1, 0), 8);
        x = table(11, 22, 11);
        due.refused(x, "like ones: there is nothing to exchange", x.errata(0, 3, 1, 0), 8);
    }

    private static void neverTwoOfOne() {
        due.sentence("FEWEST values (0, 1 or 2) put right by a CORRECTION each so that it is SMOOTH");
        WheelTables x = table(500, 655, 500, 500);
        due.refused(x, "two figures of one value", x.errata(0, 4, 1, 44), 8);
        due.done(x, "of which the highest is enough for 45", x.errata(0, 4, 1, 45), 1);
        found(x, 1, 455);
    }

    private static void fewest() {
        due.sentence("FEWEST values (0, 1 or 2) put right by a CORRECTION each so that it is SMOOTH");
        WheelTables x = table(700, 700, 700, 700, 700, 700, 700);
        due.done(x, "none", x.errata(0, 7, 1, 0), 0);
        found(x);
        x.write(0, 1, 790);
        due.done(x, "one", x.errata(0, 7, 1, 0), 1);
        found(x, 1, 700);
        x.write(0, 5, 70);
        due.done(x, "two", x.errata(0, 7, 1, 0), 2);
        found(x, 1, 700, 5, 700);
        x.write(0, 3, 710);
        due.refused(x, "three", x.errata(0, 7, 1, 0), 8);
        found(x, 1, 700, 5, 700);
        x.write(0, 1, 700);
        due.done(x, "the later two", x.errata(0, 7, 1, 0), 2);
        found(x, 3, 700, 5, 700);
        long[] twenty = Works.times(20, 99999999);
        twenty[0] = 9999999;
        twenty[19] = 99999990;
        x = table(twenty);
        due.done(x, "the first and the last of twenty", x.errata(0, 20, 1, 0), 2);
        found(x, 0, 99999999, 19, 99999999);
        twenty[0] = 99999999;
        twenty[18] = 99999989;
        x = table(twenty);
        due.done(x, "the last two of twenty", x.errata(0, 20, 4, 0), 2);
        found(x, 18, 99999999, 19, 99999999);
    }

    private static void theFirstValue() {
        due.sentence("of several the first: the values' numbers, the least first");
        WheelTables x = table(0, 0, 5);
        // value 0 would have to be below 0; values 1 and 2 may be put right
        due.done(x, "value 1, ahead of 2", x.errata(0, 3, 2, 4), 1);
        found(x, 1, 1);
        x = table(5, 0, 0);
        due.done(x, "value 0 itself", x.errata(0, 3, 2, 4), 1);
        found(x, 0, 0);
        x = table(0, 8, 0, 0, 8, 0);
        due.done(x, "two of six", x.errata(0, 6, 1, 0), 2);
        found(x, 1, 0, 4, 0);
        x = table(0, 9, 0, 9);
        // 0 and 2 to 9, 1 and 3 to 0: the first is 0 and 2
        due.done(x, "0 and 2, ahead of 1 and 3", x.errata(0, 4, 1, 0), 2);
        found(x, 0, 9, 2, 9);
        x = table(5, 5, 9, 9);
        // 0 and 1 to 9, or 2 and 3 to 5
        due.done(x, "0 and 1, ahead of 2 and 3", x.errata(0, 4, 1, 0), 2);
        found(x, 0, 9, 1, 9);
    }

    private static void theLeastValue() {
        due.sentence("then the value put right first, the least, then the other one, the least.");
        WheelTables x = table(50, 90, 50);
        due.done(x, "the least of many", x.errata(0, 3, 1, 20), 1);
        // 30 to 70 are smooth; 30 is 90 with another figure
        found(x, 1, 30);
        x = table(90, 50, 50);
        due.done(x, "the least of a value 0", x.errata(0, 3, 1, 19), 1);
        // 31 to 69; 40 is the first with 90's other figure
        found(x, 0, 40);
        x = table(80, 0, 80, 0, 0);
        // pairs that do: 0 and 2; 10 each is smooth with 20, and so is 0
        due.done(x, "the first of a pair and the other one", x.errata(0, 5, 1, 20), 2);
        found(x, 0, 0, 2, 0);
        x = table(85, 5, 85, 5, 5);
        due.done(x, "a bound of 1", x.errata(0, 5, 1, 1), 2);
        found(x, 0, 5, 2, 5);
        x = table(80, 35, 84, 30, 31);
        // 80 to 30 with 0 as its lower figure; 84 to 24, 34: the least is 34 within 9 of 35 and 30
        due.done(x, "each by its own neighbours", x.errata(0, 5, 1, 9), 2);
        found(x, 0, 30, 2, 34);
    }

    private static void whatErrataFoundLatest() {
        due.sentence("The j-th value (0, 1) put right by errata() latest with STATUS 0, what 0: its number in the table,"
            + " 1: what it should be (5: what; 8: none such).");
        WheelTables x = table(7, 7, 9, 7, 8, 7);
        due.refused(x, "ahead of any", x.right(0, 0), 8);
        due.refused(x, "what 2 ahead of any", x.right(0, 2), 5);
        due.done(x, "two", x.errata(0, 6, 1, 0), 2);
        due.refused(x, "value -1", x.right(-1, 0), 8);
        due.done(x, "value 0", x.right(0, 0), 2);
        due.done(x, "value 1", x.right(1, 0), 4);
        due.refused(x, "value 2", x.right(2, 0), 8);
        due.refused(x, "what -1", x.right(0, -1), 5);
        due.done(x, "what 1", x.right(0, 1), 7);
        due.refused(x, "what 2", x.right(0, 2), 5);
        due.refused(x, "what 2 of value 2", x.right(2, 2), 5);
        due.done(x, "the table is not changed", x.read(0, 2), 9);
        due.refused(x, "an errata() with 5", x.errata(0, 2, 1, 0), 5);
        due.refused(x, "an errata() with 4", x.errata(0, 7, 1, 0), 4);
        x.write(0, 0, 9);
        due.refused(x, "an errata() with 8", x.errata(0, 6, 1, 0), 8);
        found(x, 2, 7, 4, 7);
        due.done(x, "two with a wider bound", x.errata(0, 6, 1, 1), 2);
        x.write(0, 0, 7);
        due.done(x, "one", x.errata(0, 4, 1, 0), 1);
        found(x, 2, 7);
        due.done(x, "none", x.errata(0, 3, 1, 2), 0);
        found(x);
    }
}
