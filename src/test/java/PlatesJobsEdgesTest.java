/** The edges of plates and jobs, sentence by sentence: promises 30 to 38, and what stands under "Terms" for them. */
final class PlatesJobsEdgesTest {
    private static final int BILLION = 1000000000;
    private static final Due due = new Due();

    public static void main(String[] args) {
        rows();
        days();
        castNumbers();
        hundredCasts();
        copiesInReach();
        twentyPrints();
        toldAheadOfThat();
        sixtyTells();
        knownFromThenOn();
        toldLatest();
        wrongRows();
        wrongInReach();
        badCopies();
        daysNeverGoBack();
        jobsInReach();
        sevenJobs();
        enginesThatHaveAsMany();
        leastGreatestSum();
        theLesserEngine();
        withoutJobs();
        fitsNoEngine();
        partOf();
        due.end();
    }

    private static void rows() {
        due.sentence("PLATES, 40 rows, all 0 at first.");
        WheelTables x = new WheelTables();
        due.done(x, "a print of plates that are not cast", x.print(0, 1), 1);
        for (int row = 0; row < 40; row++) {
            due.done(x, "row " + row, x.says(1, row), 0);
        }
        due.refused(x, "row 40 is not there", x.says(1, 40), 2);
        due.refused(x, "row -1 is not there", x.says(1, -1), 2);
        due.done(x, "cast row 0", x.cast(0, 0, 3));
        due.done(x, "cast row 39", x.cast(0, 39, 4));
        due.refused(x, "cast row 40", x.cast(0, 40, 5), 2);
        due.refused(x, "cast row -1", x.cast(0, -1, 5), 2);
        due.done(x, "tell of row 0", x.tell(0, 0, 3));
        due.done(x, "tell of row 39", x.tell(0, 39, 4));
        due.refused(x, "tell of row 40", x.tell(0, 40, 5), 2);
        due.refused(x, "tell of row -1", x.tell(0, -1, 5), 2);
        due.done(x, "print", x.print(0, 1), 2);
        due.done(x, "row 0", x.says(2, 0), 3);
        due.done(x, "row 1", x.says(2, 1), 0);
        due.done(x, "row 38", x.says(2, 38), 0);
        due.done(x, "row 39", x.says(2, 39), 4);
    }

    private static void days() {
        due.sentence("CAST from a day (0 to 9,999; days never go back) on");
        WheelTables x = new WheelTables();
        due.refused(x, "cast on day -1", x.cast(-1, 0, 1), 5);
        due.refused(x, "print on day -1", x.print(-1, 1), 5);
        due.refused(x, "tell on day -1", x.tell(-1, 0, 1), 5);
        due.refused(x, "cast on day 10,000", x.cast(10000, 0, 1), 5);
        due.refused(x, "print on day 10,000", x.print(10000, 1), 5);
        due.refused(x, "tell on day 10,000", x.tell(10000, 0, 1), 5);
        due.done(x, "cast on day 0: no day has gone", x.cast(0, 0, 1));
        due.done(x, "print on day 0", x.print(0, 1), 1);
        due.done(x, "tell on day 0", x.tell(0, 0, 2));
        due.done(x, "cast on day 9,999", x.cast(9999, 0, 1));
        due.done(x, "print on day 9,999", x.print(9999, 1), 2);
        due.done(x, "tell on day 9,999", x.tell(9999, 0, 1));
        due.done(x, "as known on day 9,998", x.bad(9998), 2);
        due.done(x, "as known on day 9,999", x.bad(9999), 0);
    }

    private static void castNumbers() {
        due.sentence("a row's number (-1,000,000,000 to 1,000,000,000), at most 100 times.");
        WheelTables x = new WheelTables();
        due.done(x, "cast the greatest", x.cast(0, 0, BILLION));
        due.done(x, "cast the least", x.cast(0, 1, -BILLION));
        due.refused(x, "cast one more", x.cast(0, 0, BILLION + 1), 5);
        due.refused(x, "cast one less", x.cast(0, 1, -BILLION - 1), 5);
        due.done(x, "cast -1", x.cast(0, 2, -1));
        x.print(0, 1);
        due.done(x, "the greatest", x.says(1, 0), BILLION);
        due.done(x, "the least", x.says(1, 1), -BILLION);
        due.sentence("What a copy says in a row; STATUS tells NONE from -1 (2; 8: no such copy).");
        due.done(x, "-1", x.says(1, 2), -1);
        due.refused(x, "no copy 0", x.says(0, 2), 8);
        due.refused(x, "no copy 2", x.says(2, 2), 8);
        due.refused(x, "no row ahead of no copy", x.says(2, 40), 2);
        due.sentence("RIGHT is a row's number, told on a day, at most 60 times");
        due.done(x, "tell the greatest", x.tell(0, 0, BILLION));
        due.done(x, "tell the least", x.tell(0, 1, -BILLION));
        due.done(x, "they are right", x.wrong(1, 0), 0);
        due.refused(x, "tell one more", x.tell(0, 0, BILLION + 1), 5);
        due.refused(x, "tell one less", x.tell(0, 1, -BILLION - 1), 5);
        due.done(x, "they are right still", x.wrong(1, 0), 0);
    }

    private static void hundredCasts() {
        due.sentence("a row's number (-1,000,000,000 to 1,000,000,000), at most 100 times.");
        WheelTables x = new WheelTables();
        for (int i = 1; i <= 100; i++) {
            due.done(x, "cast " + i, x.cast(3, 7, i));
        }
        due.refused(x, "cast 101", x.cast(3, 7, 101), 7);
        due.refused(x, "cast 101 on a later day", x.cast(4, 8, 101), 7);
        due.refused(x, "7 ahead of a day that is gone", x.cast(2, 7, 101), 7);
        due.done(x, "the day has not moved", x.print(3, 1), 1);
        due.done(x, "the hundredth", x.says(1, 7), 100);
        due.done(x, "no other row", x.says(1, 8), 0);
    }

    private static void copiesInReach() {
        due.sentence("so many copies (1 to 1,000) on a day, numbered on from 1; they say what was CAST,"
            + " told ahead of that.");
        due.sentence("Copies are PRINTED: the last one's number (5; 7; 12).");
        WheelTables x = new WheelTables();
        due.refused(x, "no copies", x.print(0, 0), 5);
        due.refused(x, "-1 copies", x.print(0, -1), 5);
        due.refused(x, "1,001 copies", x.print(0, 1001), 5);
        due.refused(x, "there is none", x.says(1, 0), 8);
        due.done(x, "1 copy", x.print(0, 1), 1);
        due.done(x, "1,000 copies", x.print(0, 1000), 1001);
        due.done(x, "1 copy more", x.print(0, 1), 1002);
        due.refused(x, "copy 0", x.says(0, 0), 8);
        due.done(x, "copy 1", x.says(1, 0), 0);
        due.done(x, "copy 1,002", x.says(1002, 0), 0);
        due.refused(x, "copy 1,003", x.says(1003, 0), 8);
        due.refused(x, "copy -1", x.says(-1, 0), 8);
    }

    private static void twentyPrints() {
        due.sentence("PRINTED, at most 20 times");
        WheelTables x = new WheelTables();
        for (int i = 1; i <= 20; i++) {
            x.cast(i, 0, i);
            due.done(x, "print " + i, x.print(i, 1000), 1000 * i);
        }
        due.refused(x, "print 21", x.print(20, 1), 7);
        due.refused(x, "7 ahead of a day that is gone", x.print(19, 1), 7);
        due.refused(x, "5 ahead of 7", x.print(20, 0), 5);
        due.refused(x, "copy 20,001", x.says(20001, 0), 8);
        for (int i = 1; i <= 20; i++) {
            due.done(x, "its first copy", x.says(1000 * i - 999, 0), i);
            due.done(x, "its last copy", x.says(1000 * i, 0), i);
        }
        x.tell(20, 0, 20);
        due.done(x, "all but the last thousand", x.bad(20), 19000);
    }

    private static void toldAheadOfThat() {
        due.sentence("they say what was CAST, told ahead of that.");
        WheelTables x = new WheelTables();
        x.cast(5, 0, 1);
        x.print(5, 1);
        x.cast(5, 0, 2);
        x.print(5, 1);
        x.cast(5, 0, 3);
        due.done(x, "cast ahead of the print, on its day", x.says(1, 0), 1);
        due.done(x, "cast between two prints of one day", x.says(2, 0), 2);
        x.print(9, 1);
        due.done(x, "cast days ahead", x.says(3, 0), 3);
        x.cast(9, 0, 0);
        x.print(9, 1);
        due.done(x, "cast as 0 again", x.says(4, 0), 0);
    }

    private static void sixtyTells() {
        due.sentence("RIGHT is a row's number, told on a day, at most 60 times");
        WheelTables x = new WheelTables();
        x.print(0, 1);
        for (int i = 1; i <= 60; i++) {
            due.done(x, "tell " + i, x.tell(2, 0, 60 - i));
        }
        due.done(x, "the sixtieth is 0, and right", x.wrong(1, 2), 0);
        due.refused(x, "tell 61", x.tell(2, 0, 5), 7);
        due.refused(x, "tell 61 on a later day", x.tell(3, 1, 5), 7);
        due.refused(x, "7 ahead of a day that is gone", x.tell(1, 0, 5), 7);
        due.done(x, "is not known", x.wrong(1, 9999), 0);
        due.done(x, "the day has not moved", x.cast(2, 0, 1));
    }

    private static void knownFromThenOn() {
        due.sentence("(KNOWN from then on; of one row that told latest).");
        WheelTables x = new WheelTables();
        x.print(0, 1);
        x.tell(5, 3, 1);
        due.done(x, "the day before", x.wrong(1, 4), 0);
        due.done(x, "on its day", x.wrong(1, 5), 1);
        due.done(x, "the day behind it", x.wrong(1, 6), 1);
        due.done(x, "on the last day", x.wrong(1, 9999), 1);
        due.done(x, "on day 0", x.wrong(1, 0), 0);
        x = new WheelTables();
        x.print(0, 1);
        x.tell(0, 3, 1);
        due.done(x, "told on day 0", x.wrong(1, 0), 1);
    }

    private static void toldLatest() {
        due.sentence("(KNOWN from then on; of one row that told latest).");
        WheelTables x = new WheelTables();
        x.print(0, 1);
        x.tell(5, 3, 1);
        x.tell(5, 3, 0);
        due.done(x, "two on one day", x.wrong(1, 5), 0);
        x.tell(7, 3, 2);
        due.done(x, "as known ahead of the later one", x.wrong(1, 6), 0);
        due.done(x, "as known then", x.wrong(1, 7), 1);
        x.tell(8, 4, 0);
        due.done(x, "another row is another one's", x.wrong(1, 8), 1);
    }

    private static void wrongRows() {
        due.sentence("WRONG rows of a copy, as known on a day: rows for which a RIGHT number is known then"
            + " that is not what it says.");
        WheelTables x = new WheelTables();
        x.cast(0, 5, 9);
        x.print(0, 1);
        due.done(x, "nothing is known", x.wrong(1, 9999), 0);
        for (int row = 0; row < 40; row++) {
            x.tell(1, row, 1);
        }
        due.done(x, "all of them", x.wrong(1, 1), 40);
        x.tell(2, 0, 0);
        x.tell(2, 39, 0);
        x.tell(2, 5, 9);
        due.done(x, "the first, the last and that which was cast are right", x.wrong(1, 2), 37);
        due.done(x, "as known the day before", x.wrong(1, 1), 40);
        x.cast(2, 0, 77);
        due.done(x, "a later cast does not change a copy", x.wrong(1, 2), 37);
    }

    private static void wrongInReach() {
        due.sentence("How many rows of a copy are WRONG as known on a day (0 to 9,999) (5; 8).");
        WheelTables x = new WheelTables();
        due.refused(x, "no copies at all", x.wrong(1, 0), 8);
        x.print(0, 2);
        due.refused(x, "day -1", x.wrong(1, -1), 5);
        due.done(x, "day 0", x.wrong(1, 0), 0);
        due.done(x, "day 9,999", x.wrong(1, 9999), 0);
        due.refused(x, "day 10,000", x.wrong(1, 10000), 5);
        due.refused(x, "copy 0", x.wrong(0, 0), 8);
        due.done(x, "copy 2", x.wrong(2, 0), 0);
        due.refused(x, "copy 3", x.wrong(3, 0), 8);
        due.refused(x, "5 ahead of 8", x.wrong(3, 10000), 5);
    }

    private static void badCopies() {
        due.sentence("How many copies, of all, have a WRONG row as known on a day (5).");
        WheelTables x = new WheelTables();
        due.refused(x, "day -1", x.bad(-1), 5);
        due.refused(x, "day 10,000", x.bad(10000), 5);
        due.done(x, "no copies, day 0", x.bad(0), 0);
        due.done(x, "no copies, day 9,999", x.bad(9999), 0);
        x.tell(1, 0, 1);
        due.done(x, "no copies yet", x.bad(1), 0);
        x.print(2, 1000);
        x.cast(3, 0, 1);
        x.print(3, 1);
        due.done(x, "a thousand, of a thousand and one", x.bad(3), 1000);
        x.tell(4, 39, 6);
        x.tell(4, 38, 6);
        due.done(x, "all of them, each once", x.bad(4), 1001);
        due.done(x, "as known on day 1, printed later", x.bad(1), 1000);
        due.done(x, "as known on day 0", x.bad(0), 0);
    }

    private static void daysNeverGoBack() {
        due.sentence("12 a day that is gone.");
        due.sentence("CAST from a day (0 to 9,999; days never go back) on");
        for (int ahead = 0; ahead < 3; ahead++) {
            WheelTables x = new WheelTables();
            passDay(x, ahead, 5);
            due.refused(x, "cast on the day before", x.cast(4, 0, 1), 12);
            due.refused(x, "print on the day before", x.print(4, 1), 12);
            due.refused(x, "tell on the day before", x.tell(4, 0, 1), 12);
            due.done(x, "cast on the same day", x.cast(5, 0, 1));
            due.done(x, "tell on the same day", x.tell(5, 0, 1));
            due.is("print on the same day", x.print(5, 1) > 0, true);
            due.refused(x, "a call on day 9 that is refused", x.cast(9, 40, 1), 2);
            due.refused(x, "and another one", x.print(9, 0), 5);
            due.refused(x, "and a third", x.tell(9, 0, BILLION + 1), 5);
            x.bad(9);
            x.wrong(1, 9);
            due.done(x, "moves no day, nor does asking", x.cast(5, 0, 1));
        }
    }

    private static void passDay(WheelTables x, int by, int day) {
        if (by == 0) {
            x.cast(day, 0, 1);
        } else if (by == 1) {
            x.print(day, 1);
        } else {
            x.tell(day, 0, 1);
        }
    }

    private static void jobsInReach() {
        due.sentence("A JOB more: its number (5: AXES 2 to 7, WHEELS 1 to 12, TURNS; 7).");
        due.sentence("JOBS, at most 7: AXES and WHEELS that they need at least, TURNS (1 to 1,000).");
        WheelTables x = new WheelTables();
        due.refused(x, "1 axis", x.job(1, 1, 1), 5);
        due.refused(x, "8 axes", x.job(8, 1, 1), 5);
        due.refused(x, "no wheels", x.job(2, 0, 1), 5);
        due.refused(x, "13 wheels", x.job(2, 13, 1), 5);
        due.refused(x, "no turns", x.job(2, 1, 0), 5);
        due.refused(x, "1,001 turns", x.job(2, 1, 1001), 5);
        due.refused(x, "there is no job", x.partOf(0), 2);
        due.done(x, "the least", x.job(2, 1, 1), 0);
        due.done(x, "the greatest", x.job(7, 12, 1000), 1);
    }

    private static void sevenJobs() {
        due.sentence("JOBS, at most 7");
        WheelTables x = works(2, 1);
        for (int i = 0; i < 7; i++) {
            due.refused(x, "no job " + i + " yet", x.partOf(i), 2);
            due.done(x, "job " + i, x.job(2, 1, 1000), i);
            due.done(x, "now there is", x.partOf(i), 0);
        }
        due.refused(x, "job 7", x.job(2, 1, 1000), 7);
        due.refused(x, "5 ahead of 7", x.job(2, 1, 1001), 5);
        due.refused(x, "no job 7", x.partOf(7), 2);
        due.done(x, "seven thousand turns", x.part(), 7000);
    }

    /** Works with engines of so many axes and wheels. */
    private static WheelTables works(int... axesAndWheels) {
        WheelTables x = new WheelTables();
        Works.fill(x, 0, 0, Works.times(12, 10));
        for (int i = 0; i < axesAndWheels.length; i += 2) {
            x.engine(axesAndWheels[i], axesAndWheels[i + 1], 0);
        }
        return x;
    }

    private static void enginesThatHaveAsMany() {
        due.sentence("PARTED among ENGINES that have as many");
        WheelTables x = works(3, 4);
        x.job(3, 4, 5);
        due.done(x, "just as many", x.part(), 5);
        x = works(3, 4);
        x.job(2, 1, 5);
        due.done(x, "more than it needs", x.part(), 5);
        x = works(3, 4);
        x.job(4, 4, 5);
        due.refused(x, "an axis too few", x.part(), 9);
        x = works(3, 4);
        x.job(3, 5, 5);
        due.refused(x, "a wheel too few", x.part(), 9);
        x = works(7, 4, 3, 12);
        x.job(4, 5, 5);
        due.refused(x, "one has the axes, the other the wheels", x.part(), 9);
        x = works(2, 1, 7, 12);
        x.job(7, 12, 5);
        x.job(2, 1, 5);
        due.done(x, "each its own", x.part(), 5);
        due.done(x, "the great one", x.partOf(0), 1);
        due.done(x, "the small one", x.partOf(1), 0);
    }

    private static void leastGreatestSum() {
        due.sentence("the least greatest sum of TURNS of an ENGINE");
        WheelTables x = works(2, 1, 2, 1);
        x.job(2, 1, 1000);
        due.done(x, "one job of two engines", x.part(), 1000);
        x.job(2, 1, 999);
        due.done(x, "two jobs of two engines", x.part(), 1000);
        x.job(2, 1, 1);
        due.done(x, "that are just even", x.part(), 1000);
        x.job(2, 1, 1);
        due.done(x, "and one more", x.part(), 1001);
        x = works(2, 1, 2, 1, 2, 1, 2, 1);
        for (int turns : new int[] {8, 7, 6, 5, 4, 3, 2}) {
            x.job(2, 1, turns);
        }
        // 35 of four: 9 at least, with 8; 7 and 2; 6 and 3; 5 and 4
        due.done(x, "seven jobs of four engines", x.part(), 9);
    }

    private static void theLesserEngine() {
        due.sentence("of several the first: JOB by JOB the lesser ENGINE.");
        WheelTables x = works(2, 1, 2, 1, 2, 1, 2, 1);
        for (int turns : new int[] {8, 7, 6, 5, 4, 3, 2}) {
            x.job(2, 1, turns);
        }
        int[] want = {0, 1, 2, 3, 3, 2, 1};
        for (int job = 0; job < 7; job++) {
            due.done(x, "job " + job, x.partOf(job), want[job]);
        }
        x = works(2, 1, 2, 1);
        x.job(2, 1, 1);
        x.job(2, 1, 1);
        x.job(2, 1, 2);
        // 2 each is the least: jobs 0 and 1 on engine 0, job 2 on engine 1
        due.done(x, "job 0", x.partOf(0), 0);
        due.done(x, "job 1 on the same one", x.partOf(1), 0);
        due.done(x, "job 2 on the other one", x.partOf(2), 1);
        x.job(2, 1, 9);
        // 9 at least: job 3 alone; all others together on engine 0
        due.done(x, "job 2 comes to engine 0", x.partOf(2), 0);
        due.done(x, "job 3 on the other one", x.partOf(3), 1);
        due.done(x, "the sum", x.part(), 9);
    }

    private static void withoutJobs() {
        due.sentence("PARTED: the least greatest sum (0 without JOBS) (9: a JOB fits no ENGINE).");
        WheelTables x = new WheelTables();
        due.done(x, "no jobs, no engines", x.part(), 0);
        x = works(2, 1);
        due.done(x, "no jobs, an engine", x.part(), 0);
    }

    private static void fitsNoEngine() {
        due.sentence("PARTED: the least greatest sum (0 without JOBS) (9: a JOB fits no ENGINE).");
        WheelTables x = new WheelTables();
        x.job(2, 1, 1);
        due.refused(x, "a job, no engines", x.part(), 9);
        Works.fill(x, 0, 0, 2, 2);
        x.engine(2, 1, 0);
        due.done(x, "an engine comes", x.part(), 1);
        x.job(2, 2, 3);
        due.refused(x, "the last job fits none", x.part(), 9);
        x.engine(2, 2, 0);
        due.done(x, "an engine for it comes", x.part(), 3);
    }

    private static void partOf() {
        due.sentence("The ENGINE of a JOB by that (2; 9).");
        WheelTables x = works(2, 1);
        due.refused(x, "no jobs", x.partOf(0), 2);
        x.job(2, 1, 1);
        due.done(x, "part() need not have been asked", x.partOf(0), 0);
        due.refused(x, "job 1", x.partOf(1), 2);
        due.refused(x, "job -1", x.partOf(-1), 2);
        x.job(2, 2, 1);
        due.refused(x, "a job that fits none", x.partOf(1), 9);
        due.refused(x, "nor is the other one parted then", x.partOf(0), 9);
        due.refused(x, "2 ahead of 9", x.partOf(2), 2);
        x.engine(7, 12, 0);
        due.done(x, "an engine comes", x.partOf(1), 1);
        due.done(x, "and for the other one", x.partOf(0), 0);
    }
}
