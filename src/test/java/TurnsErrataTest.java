/** Promises 26 to 29: turns, turnsAt, errata, right. */
final class TurnsErrataTest extends TableAsks {
    public static void main(String[] args) {
        turns();
        refusesTurns();
        findsNone();
        findsOne();
        findsTwo();
        takesTheFirst();
        countsEightFigures();
        keepsWhatWasFound();
        refusesErrata();
        due.end();
    }

    private static void figures(WheelTables x, long number, int sum, int... figures) {
        due.done(x, "turns(" + number + ")", x.turns(number), sum);
        for (int k = 0; k < 13; k++) {
            int want = k < figures.length ? figures[k] : 0;
            due.done(x, "turnsAt(" + number + ", " + k + ")", x.turnsAt(number, k), want);
        }
    }

    private static void turns() {
        WheelTables x = new WheelTables();
        figures(x, 0, 0);
        figures(x, 1, 1, 1);
        figures(x, 5, 5, 5);
        figures(x, 6, 5, -4, 1);
        figures(x, 9, 2, -1, 1);
        figures(x, 10, 1, 0, 1);
        figures(x, 45, 9, 5, 4);
        figures(x, 55, 10, 5, 5);
        // of 5, 6 (5 and -4 and 1): 10; of -5, 7 (-5 and -3 and 1): 9
        figures(x, 65, 9, -5, -3, 1);
        figures(x, 56, 9, -4, -4, 1);
        // 100 less 5; 1,000 less 51
        figures(x, 95, 6, -5, 0, 1);
        figures(x, 949, 7, -1, -5, 0, 1);
        figures(x, 999999999999L, 2, -1, 0, 0, 0, 0, 0, 0, 0, 0, 0, 0, 0, 1);
        // 55 the plain way is as good as 100 less 45, and the greater figure comes first; 555 is not
        figures(x, 555, 14, -5, -4, -4, 1);
        figures(x, 555555555555L, 50, -5, -4, -4, -4, -4, -4, -4, -4, -4, -4, -4, -4, 1);
        figures(x, 800000000000L, 3, 0, 0, 0, 0, 0, 0, 0, 0, 0, 0, 0, -2, 1);
    }

    private static void refusesTurns() {
        WheelTables x = new WheelTables();
        due.refused(x, "turns(-1)", x.turns(-1), 5);
        due.refused(x, "turns(1,000,000,000,000)", x.turns(1000000000000L), 5);
        due.refused(x, "turns of the least", x.turns(Long.MIN_VALUE), 5);
        due.refused(x, "turnsAt(-1, 0)", x.turnsAt(-1, 0), 5);
        due.refused(x, "turnsAt(1,000,000,000,000, 0)", x.turnsAt(1000000000000L, 0), 5);
        due.refused(x, "turnsAt(5, -1)", x.turnsAt(5, -1), 5);
        due.refused(x, "turnsAt(5, 13)", x.turnsAt(5, 13), 5);
    }

    private static void findsNone() {
        WheelTables x = table(5, 7, 9, 11);
        due.done(x, "differences of 2", x.errata(0, 4, 1, 2), 0);
        found(x);
        due.done(x, "second differences of 0", x.errata(0, 4, 2, 0), 0);
        x = table(0, 1000, 0, 99999999);
        due.done(x, "the bound itself", x.errata(0, 3, 1, 1000), 0);
        // 0 - 2 * 1,000 + 0 is too great in size, though below 0; of the first value the least that is enough
        due.done(x, "a size", x.errata(0, 3, 2, 1000), 1);
        found(x, 0, 1000);
    }

    private static void findsOne() {
        WheelTables x = table(0, 1, 4, 9, 16, 25, 36, 49);
        due.done(x, "squares", x.errata(0, 8, 3, 0), 0);
        x.write(0, 4, 61);
        due.done(x, "exchanged figures", x.errata(0, 8, 3, 0), 1);
        found(x, 4, 16);
        x.write(0, 4, 17);
        due.done(x, "a figure", x.errata(0, 8, 3, 0), 1);
        found(x, 4, 16);
        x.write(0, 4, 50000016);
        due.done(x, "the highest figure", x.errata(0, 8, 3, 0), 1);
        found(x, 4, 16);
        x.write(0, 4, 16);
        WheelTables unlike = table(89765432, 89765432, 98765432, 89765432);
        due.done(unlike, "the two highest of eight unlike figures", unlike.errata(0, 4, 1, 0), 1);
        found(unlike, 2, 89765432);
        x.write(0, 7, 94);
        due.done(x, "the last value", x.errata(0, 8, 3, 0), 1);
        found(x, 7, 49);
        due.done(x, "without it", x.errata(0, 7, 3, 0), 0);
    }

    private static void findsTwo() {
        WheelTables x = table(0, 1, 4, 9, 61, 25, 63, 49);
        due.done(x, "two values", x.errata(0, 8, 3, 0), 2);
        found(x, 4, 16, 6, 36);
        x = table(7, 1, 4, 9, 16, 25, 36, 94);
        due.done(x, "the first and the last", x.errata(0, 8, 3, 0), 2);
        found(x, 0, 0, 7, 49);
        x = table(10, 10, 21, 12, 10, 10);
        due.done(x, "one is enough", x.errata(0, 6, 1, 2), 1);
        found(x, 2, 11);
        x = table(1, 8, 27, 64, 152, 261, 343, 512, 729, 1000);
        due.done(x, "two exchanges side by side", x.errata(0, 10, 4, 0), 2);
        found(x, 4, 125, 5, 216);
        long[] twenty = new long[20];
        for (int i = 0; i < 20; i++) {
            twenty[i] = 90000000 + i * i;
        }
        twenty[18] = 80000324;
        twenty[19] = 90000316;
        x = table(twenty);
        due.done(x, "at the end of twenty", x.errata(0, 20, 3, 0), 2);
        found(x, 18, 90000324, 19, 90000361);
        x = table(100, 200, 300, 333, 411, 600, 700);
        due.refused(x, "two figures of one value", x.errata(0, 7, 2, 0), 8);
    }

    private static void takesTheFirst() {
        WheelTables x = table(10, 20, 20);
        // 0 to 20 or 1 and 2 to 10
        due.done(x, "one ahead of two", x.errata(0, 3, 1, 0), 1);
        found(x, 0, 20);
        x = table(10, 15, 10);
        due.done(x, "the least number of a value", x.errata(0, 3, 1, 4), 1);
        found(x, 1, 10);
        x = table(10, 19, 19, 19);
        due.done(x, "the least value", x.errata(0, 4, 1, 5), 1);
        found(x, 0, 14);
        x = table(0, 5, 0);
        due.done(x, "the least value that is enough", x.errata(0, 3, 1, 2), 1);
        found(x, 1, 0);
        x = table(5, 0, 5, 0);
        due.done(x, "of a pair the first value, then the other", x.errata(0, 4, 1, 1), 2);
        found(x, 0, 0, 2, 0);
        x = table(0, 4, 0, 4);
        due.done(x, "the lesser numbers", x.errata(0, 4, 1, 2), 2);
        found(x, 0, 2, 2, 2);
    }

    private static void countsEightFigures() {
        WheelTables x = table(99999999, 99999998, 9999999, 99999996);
        due.done(x, "a leading 0 becomes a 9: one too many for order 2", x.errata(0, 4, 2, 4), 1);
        found(x, 2, 99999999);
        x = table(0, 0, 10000000, 0);
        due.done(x, "0 - 3 * 10,000,000 + 3 * what it should be - 0", x.errata(0, 4, 3, 0), 1);
        found(x, 1, 10000000);
        x = table(20000001, 20000001, 2000001, 20000001);
        due.done(x, "0 and 2 exchanged at the front", x.errata(0, 4, 1, 0), 1);
        found(x, 2, 20000001);
    }

    private static void keepsWhatWasFound() {
        WheelTables x = table(0, 1, 4, 9, 61, 25, 63, 49);
        due.refused(x, "ahead of any", x.right(0, 0), 8);
        due.refused(x, "a wrong what comes first", x.right(0, 2), 5);
        x.errata(0, 8, 3, 0);
        x.write(0, 1, 10);
        x.write(0, 3, 90);
        due.refused(x, "more than two", x.errata(0, 8, 3, 0), 8);
        found(x, 4, 16, 6, 36);
        due.refused(x, "too few numbers", x.errata(0, 9, 3, 0), 4);
        found(x, 4, 16, 6, 36);
        due.refused(x, "right(-1, 0)", x.right(-1, 0), 8);
        due.refused(x, "right(0, -1)", x.right(0, -1), 5);
        x.errata(0, 3, 1, 1000);
        found(x);
    }

    private static void refusesErrata() {
        WheelTables x = table(0, 0, 0, 0, 100000000);
        due.refused(x, "no such tray", x.errata(4, 2, 0, -1), 1);
        due.refused(x, "a missing tray", x.errata(1, 2, 0, -1), 3);
        due.refused(x, "n of 2", x.errata(0, 2, 1, 0), 5);
        due.refused(x, "n of 21", x.errata(0, 21, 1, 0), 5);
        due.refused(x, "k of 0", x.errata(0, 4, 0, 0), 5);
        due.refused(x, "k of 5", x.errata(0, 20, 5, 0), 5);
        due.refused(x, "k not below n", x.errata(0, 3, 3, 0), 5);
        due.refused(x, "b of -1", x.errata(0, 4, 1, -1), 5);
        due.refused(x, "b of 1,001", x.errata(0, 4, 1, 1001), 5);
        due.refused(x, "too few numbers, and one that can't be", x.errata(0, 6, 1, 0), 4);
        due.refused(x, "a number too great", x.errata(0, 5, 1, 0), 5);
        due.done(x, "a number that is not asked for", x.errata(0, 4, 1, 0), 0);
        x.write(0, 1, -1);
        due.refused(x, "a number below 0", x.errata(0, 4, 1, 0), 5);
        x = table(99999999, 99999999, 99999999);
        due.done(x, "the greatest number", x.errata(0, 3, 2, 0), 0);
    }
}
