/** Promises 30 to 38: cast, print, tell, says, wrong, bad, job, part, partOf. */
final class PlatesJobsTest {
    private static final Due due = new Due();

    public static void main(String[] args) {
        castsAndPrints();
        refusesToCast();
        refusesToPrint();
        refusesToTell();
        knowsWhatIsWrong();
        neverGoesBack();
        takesJobs();
        parts();
        partsAnew();
        due.end();
    }

    private static void castsAndPrints() {
        WheelTables x = new WheelTables();
        due.done(x, "print on day 0", x.print(0, 3), 3);
        due.done(x, "cast on day 0", x.cast(0, 39, -1));
        due.done(x, "print on the same day", x.print(0, 1000), 1003);
        due.done(x, "cast over it", x.cast(9999, 39, 1000000000));
        due.done(x, "print on the last day", x.print(9999, 1), 1004);
        due.done(x, "cast behind it", x.cast(9999, 39, -1000000000));
        due.done(x, "all 0 at first", x.says(3, 39), 0);
        due.done(x, "told ahead of the print", x.says(4, 39), -1);
        due.done(x, "the last of these", x.says(1003, 39), -1);
        due.done(x, "the next print", x.says(1004, 39), 1000000000);
        due.done(x, "another row", x.says(1004, 38), 0);
        due.refused(x, "copy 0", x.says(0, 0), 8);
        due.refused(x, "copy 1,005", x.says(1005, 0), 8);
        due.refused(x, "copy 1,005 in no row", x.says(1005, 40), 2);
        due.refused(x, "row -1", x.says(1, -1), 2);
    }

    private static void refusesToCast() {
        WheelTables x = new WheelTables();
        due.refused(x, "row 40", x.cast(-1, 40, 0), 2);
        due.refused(x, "row -1", x.cast(0, -1, 0), 2);
        due.refused(x, "day -1", x.cast(-1, 0, 0), 5);
        due.refused(x, "day 10,000", x.cast(10000, 0, 0), 5);
        due.refused(x, "too great", x.cast(0, 0, 1000000001), 5);
        due.refused(x, "too small", x.cast(0, 0, -1000000001), 5);
        for (int i = 0; i < 100; i++) {
            due.done(x, "cast " + i, x.cast(5, i % 40, i));
        }
        due.refused(x, "one too many", x.cast(5, 0, 0), 7);
        due.refused(x, "one too many comes ahead of a day that is gone", x.cast(4, 0, 0), 7);
        due.refused(x, "a wrong number comes ahead of that", x.cast(4, 0, 1000000001), 5);
        due.done(x, "print", x.print(5, 1), 1);
        due.done(x, "the latest cast", x.says(1, 19), 99);
        due.done(x, "the only cast", x.says(1, 20), 60);
    }

    private static void refusesToPrint() {
        WheelTables x = new WheelTables();
        due.refused(x, "no copies", x.print(0, 0), 5);
        due.refused(x, "1,001 copies", x.print(0, 1001), 5);
        due.refused(x, "day -1", x.print(-1, 1), 5);
        due.refused(x, "day 10,000", x.print(10000, 1), 5);
        for (int i = 1; i <= 20; i++) {
            due.done(x, "print " + i, x.print(7, 1000), 1000 * i);
        }
        due.refused(x, "one too many", x.print(7, 1), 7);
        due.refused(x, "one too many, on a day that is gone", x.print(6, 1), 7);
        due.refused(x, "a wrong number comes first", x.print(6, 0), 5);
        due.refused(x, "no copy more", x.says(20001, 0), 8);
        due.done(x, "the last copy", x.says(20000, 0), 0);
    }

    private static void refusesToTell() {
        WheelTables x = new WheelTables();
        due.refused(x, "row 40", x.tell(-1, 40, 0), 2);
        due.refused(x, "day -1", x.tell(-1, 0, 0), 5);
        due.refused(x, "day 10,000", x.tell(10000, 0, 0), 5);
        due.refused(x, "too great", x.tell(0, 0, 1000000001), 5);
        for (int i = 0; i < 60; i++) {
            due.done(x, "tell " + i, x.tell(8, 3, i));
        }
        due.refused(x, "one too many", x.tell(8, 3, 0), 7);
        due.refused(x, "one too many, on a day that is gone", x.tell(7, 3, 0), 7);
    }

    private static void knowsWhatIsWrong() {
        WheelTables x = new WheelTables();
        due.done(x, "no copies at all", x.bad(0), 0);
        x.cast(1, 0, 5);
        x.cast(1, 1, 7);
        x.print(2, 10);
        x.cast(3, 1, 8);
        x.print(3, 5);
        due.done(x, "nothing is known", x.wrong(1, 9999), 0);
        x.tell(4, 1, 8);
        x.tell(5, 0, 6);
        x.tell(5, 2, 0);
        x.tell(7, 0, 5);
        x.tell(7, 1, 9);
        x.tell(7, 1, 7);
        due.done(x, "the day before", x.wrong(1, 3), 0);
        due.done(x, "one row from day 4 on", x.wrong(1, 4), 1);
        due.done(x, "none of a later copy", x.wrong(11, 4), 0);
        due.done(x, "two rows", x.wrong(10, 5), 2);
        due.done(x, "as known on a day without news", x.wrong(10, 6), 2);
        due.done(x, "one row of a later copy", x.wrong(15, 6), 1);
        due.done(x, "told latest", x.wrong(10, 7), 0);
        due.done(x, "told latest, of a later copy", x.wrong(15, 7), 1);
        due.done(x, "bad on day 3", x.bad(3), 0);
        due.done(x, "bad on day 4", x.bad(4), 10);
        due.done(x, "bad on day 5", x.bad(5), 15);
        due.done(x, "bad on day 7", x.bad(7), 5);
        due.done(x, "bad on the last day", x.bad(9999), 5);
        due.refused(x, "day -1 of no copy", x.wrong(16, -1), 5);
        due.refused(x, "day 10,000", x.wrong(1, 10000), 5);
        due.refused(x, "no such copy", x.wrong(16, 7), 8);
        due.refused(x, "copy 0", x.wrong(0, 7), 8);
        due.refused(x, "bad(-1)", x.bad(-1), 5);
        due.refused(x, "bad(10,000)", x.bad(10000), 5);
        due.done(x, "asking moves no day", x.cast(7, 0, 0));
    }

    private static void neverGoesBack() {
        WheelTables x = new WheelTables();
        x.cast(5, 0, 1);
        due.refused(x, "tell behind a cast", x.tell(4, 0, 1), 12);
        due.refused(x, "print behind a cast", x.print(4, 1), 12);
        x.print(6, 1);
        due.refused(x, "cast behind a print", x.cast(5, 0, 1), 12);
        x.tell(7, 0, 2);
        due.refused(x, "cast behind a tell", x.cast(6, 0, 1), 12);
        due.refused(x, "print behind a tell", x.print(6, 1), 12);
        due.refused(x, "tell behind a tell", x.tell(6, 0, 1), 12);
        due.refused(x, "a refused call moves no day", x.cast(9, 40, 1), 2);
        due.done(x, "the same day", x.cast(7, 0, 1));
        due.done(x, "no copy was printed by what was refused", x.says(1, 0), 1);
        due.refused(x, "there is no other", x.says(2, 0), 8);
    }

    private static void takesJobs() {
        WheelTables x = new WheelTables();
        due.refused(x, "one axis", x.job(1, 1, 1), 5);
        due.refused(x, "eight axes", x.job(8, 1, 1), 5);
        due.refused(x, "no wheels", x.job(2, 0, 1), 5);
        due.refused(x, "13 wheels", x.job(2, 13, 1), 5);
        due.refused(x, "no turns", x.job(2, 1, 0), 5);
        due.refused(x, "1,001 turns", x.job(2, 1, 1001), 5);
        due.done(x, "no jobs, no engines", x.part(), 0);
        due.refused(x, "partOf(0) without jobs", x.partOf(0), 2);
        for (int i = 0; i < 7; i++) {
            due.done(x, "job " + i, x.job(2, 1, 1000), i);
        }
        due.refused(x, "one too many", x.job(7, 12, 1000), 7);
        due.refused(x, "a wrong number comes first", x.job(2, 1, 0), 5);
        due.refused(x, "no engines", x.part(), 9);
        due.refused(x, "no engine of job 0", x.partOf(0), 9);
        due.refused(x, "partOf(7)", x.partOf(7), 2);
        due.refused(x, "partOf(-1)", x.partOf(-1), 2);
    }

    private static WheelTables withEngines(int... axesAndWheels) {
        WheelTables x = new WheelTables();
        x.tray(0, 0, 12);
        for (int i = 0; i < 12; i++) {
            x.write(0, i, 10);
        }
        for (int i = 0; i < axesAndWheels.length; i += 2) {
            x.engine(axesAndWheels[i], axesAndWheels[i + 1], 0);
        }
        return x;
    }

    private static void parted(WheelTables x, int greatest, int... engines) {
        for (int i = 0; i < engines.length; i++) {
            due.done(x, "engine of job " + i, x.partOf(i), engines[i]);
        }
        due.done(x, "part", x.part(), greatest);
    }

    private static void parts() {
        WheelTables x = withEngines(2, 2, 2, 2, 2, 2, 2, 2);
        int[] turns = {7, 6, 5, 4, 4, 3, 3};
        for (int t : turns) {
            x.job(2, 2, t);
        }
        // 8 can't be: 7 and 6 alone, and 19 for two; with 9: 7, 6 and 3, 5 and 4, 4 and 3
        parted(x, 9, 0, 1, 2, 2, 3, 1, 3);
        x = withEngines(2, 2, 2, 2);
        x.job(2, 2, 5);
        x.job(2, 2, 5);
        x.job(2, 2, 1);
        parted(x, 6, 0, 1, 0);
        x = withEngines(2, 2, 2, 2);
        x.job(2, 2, 9);
        x.job(2, 2, 1);
        x.job(2, 2, 1);
        parted(x, 9, 0, 1, 1);
        x = withEngines(2, 3, 3, 2);
        x.job(2, 2, 9);
        x.job(3, 1, 8);
        x.job(2, 3, 7);
        parted(x, 16, 0, 1, 0);
    }

    private static void partsAnew() {
        WheelTables x = withEngines(3, 4);
        x.job(3, 4, 20);
        parted(x, 20, 0);
        x.job(3, 4, 30);
        parted(x, 50, 0, 0);
        x.tray(0, 0, 4);
        for (int i = 0; i < 4; i++) {
            x.write(0, i, 2);
        }
        x.engine(3, 4, 0);
        parted(x, 30, 0, 1);
        x.job(4, 1, 1);
        due.refused(x, "a job that fits no engine", x.part(), 9);
        due.refused(x, "then no job has one", x.partOf(0), 9);
        x.engine(4, 1, 0);
        parted(x, 30, 0, 1, 2);
    }
}
