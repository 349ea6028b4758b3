/** The edges of trays, sentence by sentence: promises 1 to 6, and what stands under "Terms" for them. */
final class TraysEdgesTest {
    private static final Due due = new Due();

    public static void main(String[] args) {
        newObject();
        lastCall();
        statusOfTheLatestCall();
        zeroElse();
        traysThatThereAre();
        missingOnes();
        cutToEachSort();
        soManyNumbers();
        madeAnew();
        placesThatThereAre();
        readsBelowNothing();
        poursAtTheEnds();
        poursWithinOne();
        poursNothing();
        poursInOrder();
        due.end();
    }

    private static void newObject() {
        due.sentence("TRAYS are MISSING, no ENGINES, no TEXT, an empty tape, day 0; STATUS 0.");
        WheelTables x = new WheelTables();
        due.is("status() of a new object", x.status(), 0);
        for (int tray = 0; tray < 4; tray++) {
            due.refused(x, "read(" + tray + ", 0)", x.read(tray, 0), 3);
        }
        due.refused(x, "no engine 0", x.mend(0), 2);
        due.refused(x, "no text", x.run(), 8);
        due.refused(x, "no byte on the tape", x.cards(1), 5);
        due.is("the first bytes", x.feed(0, 0, 0, 0, 0), 20);
        due.done(x, "nothing is printed, nothing known", x.bad(0), 0);
        due.done(x, "day 0 is not gone", x.tell(0, 0, 0));
        Works.fill(x, 0, 0, 2);
        due.done(x, "the first engine", x.engine(2, 1, 0), 0);
        due.done(x, "the first job", x.job(2, 1, 1), 0);
    }

    private static void lastCall() {
        due.sentence("An object is used for at most 512 calls after it has been made; what later calls answer is free.");
        WheelTables x = new WheelTables();
        x.tray(0, 3, 1);
        for (int call = 2; call <= 510; call++) {
            x.write(0, 0, call);
        }
        due.is("call 511", x.read(0, 0), 510);
        due.is("call 512", x.status(), 0);
    }

    private static void statusOfTheLatestCall() {
        due.sentence("The STATUS of the latest call that has one.");
        due.sentence("status(), fault(), feed() have none.");
        WheelTables x = new WheelTables();
        x.read(4, 0);
        due.is("status()", x.status(), 1);
        due.is("status() behind status()", x.status(), 1);
        x.fault(0);
        due.is("status() behind fault(0)", x.status(), 1);
        x.fault(-1);
        due.is("status() behind fault(-1)", x.status(), 1);
        for (int i = 0; i < 25; i++) {
            x.feed(0, 0, 0, 0, 0);
        }
        due.is("status() behind feeds", x.status(), 1);
        due.is("a feed that is one too many", x.feed(0, 0, 0, 0, 0), -1);
        due.is("status() behind that", x.status(), 1);
        x.turns(0);
        due.is("status() behind a call that is done", x.status(), 0);
        due.is("one more feed that is one too many", x.feed(0, 0, 0, 0, 0), -1);
        due.is("status() behind that", x.status(), 0);
        x.read(0, 0);
        due.is("status() behind a call that is refused", x.status(), 3);
    }

    /** Each call that has a STATUS, done behind one that was refused. */
    private static void zeroElse() {
        due.sentence("0 else.");
        WheelTables x = new WheelTables();
        zero(x, "tray", () -> x.tray(0, 3, 3));
        zero(x, "write", () -> x.write(0, 0, 2));
        zero(x, "read", () -> x.read(0, 0));
        zero(x, "pour", () -> x.pour(0, 0, 0, 0, 1));
        zero(x, "engine", () -> x.engine(3, 1, 0));
        zero(x, "figure", () -> x.figure(0, 0, 0));
        zero(x, "put", () -> x.put(0, 0, 0, 1));
        zero(x, "number", () -> x.number(0, 0));
        zero(x, "set", () -> x.set(0, 0, 3));
        zero(x, "mishap", () -> x.mishap(0, 1, 0, 0, 0));
        zero(x, "mend", () -> x.mend(0));
        zero(x, "turn", () -> x.turn(0, 1));
        zero(x, "sheet", () -> x.sheet(0, 0, 1));
        zero(x, "explain", () -> x.explain(0, 0, 1));
        x.tray(0, 3, 3);
        zero(x, "finer", () -> x.finer(0, 1, 2, 1));
        zero(x, "errata", () -> x.errata(0, 3, 1, 0));
        x.write(0, 0, 1);
        x.errata(0, 3, 1, 0);
        zero(x, "right", () -> x.right(0, 0));
        zero(x, "turns", () -> x.turns(1));
        zero(x, "turnsAt", () -> x.turnsAt(1, 0));
        Works.feed(x, "print 0;");
        zero(x, "cards", () -> x.cards(8));
        zero(x, "run", x::run);
        zero(x, "ran", () -> x.ran(0));
        zero(x, "printed", () -> x.printed(0));
        zero(x, "place", () -> x.place(0));
        zero(x, "cast", () -> x.cast(0, 0, 1));
        zero(x, "print", () -> x.print(0, 1));
        zero(x, "tell", () -> x.tell(0, 0, 1));
        zero(x, "says", () -> x.says(1, 0));
        zero(x, "wrong", () -> x.wrong(1, 0));
        zero(x, "bad", () -> x.bad(0));
        zero(x, "job", () -> x.job(2, 1, 1));
        zero(x, "part", x::part);
        zero(x, "partOf", () -> x.partOf(0));
        Works.fill(x, 0, 3, 0, 1, 4);
        x.set(0, 0, 3);
        x.put(0, 0, 0, 1);
        Works.fill(x, 0, 3, 1);
        x.explain(0, 0, 1);
        zero(x, "because", () -> x.because(0));
    }

    private static void zero(WheelTables x, String name, Runnable call) {
        x.read(4, 0);
        due.is("status() of a call that is refused", x.status(), 1);
        call.run();
        due.is("status() behind " + name, x.status(), 0);
    }

    private static void missingOnes() {
        due.sentence("3 the TRAY is MISSING.");
        WheelTables x = Works.with(2, 10);
        for (int tray = 1; tray < 4; tray++) {
            due.refused(x, "write", x.write(tray, 0, 1), 3);
            due.refused(x, "read", x.read(tray, 0), 3);
            due.refused(x, "pour from", x.pour(tray, 0, 0, 0, 0), 3);
            due.refused(x, "pour to", x.pour(0, 0, tray, 0, 0), 3);
            due.refused(x, "engine", x.engine(2, 1, tray), 3);
            due.refused(x, "set", x.set(0, tray, 1), 3);
            due.refused(x, "sheet", x.sheet(0, tray, 1), 3);
            due.refused(x, "explain", x.explain(0, tray, 1), 3);
            due.refused(x, "finer", x.finer(tray, 1, 2, 1), 3);
            due.refused(x, "errata", x.errata(tray, 3, 1, 0), 3);
            due.done(x, "made without numbers", x.tray(tray, 3, 0));
            due.refused(x, "it is not missing, but too short", x.sheet(0, tray, 1), 4);
        }
    }

    private static void traysThatThereAre() {
        due.sentence("TRAYS, 0 to 3, are MISSING at first");
        WheelTables x = new WheelTables();
        due.refused(x, "tray -1", x.write(-1, 0, 1), 1);
        due.refused(x, "tray 0", x.write(0, 0, 1), 3);
        due.refused(x, "tray 3", x.write(3, 0, 1), 3);
        due.refused(x, "tray 4", x.write(4, 0, 1), 1);
        due.done(x, "the first tray is made", x.tray(0, 0, 1));
        due.done(x, "the last tray is made", x.tray(3, 0, 1));
        due.refused(x, "the second is missing still", x.read(1, 0), 3);
        due.refused(x, "the third is missing still", x.read(2, 0), 3);
        due.sentence("1 no such TRAY (or sort).");
        due.done(x, "sort 0", x.tray(1, 0, 1));
        due.done(x, "sort 3", x.tray(1, 3, 1));
        due.refused(x, "sort 4", x.tray(1, 4, 1), 1);
        due.refused(x, "sort -1", x.tray(1, -1, 1), 1);
    }

    private static void cutToEachSort() {
        due.sentence("or rows of numbers of 8 bits (sort 0), 16 (1), 32 (2) or 64 (3), with sign;"
            + " what is written is cut to these.");
        WheelTables x = new WheelTables();
        for (int sort = 0; sort < 4; sort++) {
            long greatest = Long.MAX_VALUE >> 64 - (8 << sort);
            x.tray(sort, sort, 1);
            wrote(x, sort, greatest, greatest);
            wrote(x, sort, greatest + 1, -greatest - 1);
            wrote(x, sort, -greatest - 1, -greatest - 1);
            wrote(x, sort, -greatest - 2, greatest);
            wrote(x, sort, -1, -1);
            wrote(x, sort, 2 * greatest + 1, -1);
            wrote(x, sort, 2 * greatest + 2, 0);
        }
    }

    private static void wrote(WheelTables x, int tray, long v, long want) {
        due.done(x, "write of " + v, x.write(tray, 0, v));
        due.done(x, v + " in sort " + tray, x.read(tray, 0), want);
    }

    private static void soManyNumbers() {
        due.sentence("A TRAY is a row of so many numbers (at most 60; 5), all 0 (1; 5; 6).");
        WheelTables x = new WheelTables();
        due.done(x, "60 numbers", x.tray(0, 0, 60));
        for (int place = 0; place < 60; place++) {
            due.done(x, "place " + place + " of 60", x.read(0, place), 0);
        }
        due.refused(x, "place 60 of 60", x.read(0, 60), 4);
        due.refused(x, "61 numbers", x.tray(1, 0, 61), 5);
        due.refused(x, "61 numbers: missing still", x.read(1, 0), 3);
        due.done(x, "one number", x.tray(1, 0, 1));
        due.done(x, "place 0 of one", x.read(1, 0), 0);
        due.refused(x, "place 1 of one", x.read(1, 1), 4);
        due.sentence("6 below 0 (a TRAY's length).");
        due.refused(x, "-1 numbers", x.tray(2, 0, -1), 6);
        due.refused(x, "-1 numbers: missing still", x.read(2, 0), 3);
        due.done(x, "no numbers", x.tray(2, 0, 0));
        due.refused(x, "an empty one is not missing, but has no place", x.read(2, 0), 4);
    }

    private static void madeAnew() {
        due.sentence("A TRAY is a row of so many numbers (at most 60; 5), all 0 (1; 5; 6).");
        WheelTables x = new WheelTables();
        Works.fill(x, 0, 0, Works.times(60, 7));
        due.refused(x, "61 of another sort", x.tray(0, 3, 61), 5);
        due.refused(x, "-1 of another sort", x.tray(0, 3, -1), 6);
        due.refused(x, "of sort 4", x.tray(0, 4, 1), 1);
        due.done(x, "the numbers stay", x.read(0, 59), 7);
        due.done(x, "write 300", x.write(0, 0, 300));
        due.done(x, "the sort stays", x.read(0, 0), 44);
        due.done(x, "one number of another sort", x.tray(0, 1, 1));
        due.done(x, "write 300 again", x.write(0, 0, 300));
        due.done(x, "now it is 16 bits", x.read(0, 0), 300);
        due.refused(x, "the old ones are gone", x.read(0, 1), 4);
        due.done(x, "60 again", x.tray(0, 0, 60));
        due.done(x, "all 0: the first", x.read(0, 0), 0);
        due.done(x, "all 0: the second", x.read(0, 1), 0);
        due.done(x, "all 0: the last", x.read(0, 59), 0);
    }

    private static void placesThatThereAre() {
        due.sentence("A number comes to a place of a TRAY (1; 3; 4).");
        due.sentence("4 a place that the TRAY has not, or too few numbers.");
        WheelTables x = new WheelTables();
        x.tray(0, 3, 2);
        due.done(x, "the first place", x.write(0, 0, 11));
        due.done(x, "the last place", x.write(0, 1, 22));
        due.refused(x, "ahead of the first place", x.write(0, -1, 33), 4);
        due.refused(x, "behind the last place", x.write(0, 2, 33), 4);
        due.done(x, "the first stays", x.read(0, 0), 11);
        due.done(x, "the last stays", x.read(0, 1), 22);
        x.tray(0, 3, 3);
        due.done(x, "nothing was written behind it", x.read(0, 2), 0);
    }

    private static void readsBelowNothing() {
        due.sentence("The number in a place of a TRAY; STATUS tells NONE from -1 (1; 3; 4).");
        WheelTables x = new WheelTables();
        Works.fill(x, 2, 0, -1);
        due.done(x, "-1 in a place", x.read(2, 0), -1);
        due.refused(x, "no place", x.read(2, 1), 4);
        due.refused(x, "a missing tray", x.read(1, 0), 3);
        due.refused(x, "no tray", x.read(4, 0), 1);
    }

    private static void holds(WheelTables x, int tray, long... want) {
        for (int i = 0; i < want.length; i++) {
            due.is("tray " + tray + ", place " + i, x.read(tray, i), want[i]);
        }
    }

    private static void poursAtTheEnds() {
        due.sentence("So many numbers from place i on of a TRAY come to place j on of another one");
        WheelTables x = new WheelTables();
        Works.fill(x, 0, 2, 1, 2, 3, 4);
        Works.fill(x, 1, 2, 0, 0, 0);
        due.done(x, "the last two to the last two", x.pour(0, 2, 1, 1, 2));
        holds(x, 1, 0, 3, 4);
        due.refused(x, "one more than there are here", x.pour(0, 3, 1, 0, 2), 4);
        due.refused(x, "one more than there are there", x.pour(0, 0, 1, 2, 2), 4);
        holds(x, 1, 0, 3, 4);
        due.done(x, "as many as go into it", x.pour(0, 0, 1, 0, 3));
        holds(x, 1, 1, 2, 3);
        due.refused(x, "all of it: one too many for the other", x.pour(0, 0, 1, 0, 4), 4);
        holds(x, 1, 1, 2, 3);
        holds(x, 0, 1, 2, 3, 4);
        Works.fill(x, 2, 3, Works.times(60, 5));
        x.tray(3, 3, 60);
        due.done(x, "all sixty", x.pour(2, 0, 3, 0, 60));
        due.done(x, "the last of sixty", x.read(3, 59), 5);
    }

    private static void poursWithinOne() {
        due.sentence("or the same, as they were");
        WheelTables x = new WheelTables();
        Works.fill(x, 0, 2, 1, 2, 3, 4, 5);
        due.done(x, "one place on, over themselves", x.pour(0, 0, 0, 1, 4));
        holds(x, 0, 1, 1, 2, 3, 4);
        due.done(x, "one place back, over themselves", x.pour(0, 1, 0, 0, 4));
        holds(x, 0, 1, 2, 3, 4, 4);
        due.done(x, "onto themselves", x.pour(0, 0, 0, 0, 5));
        holds(x, 0, 1, 2, 3, 4, 4);
        due.refused(x, "one place on, and one too many", x.pour(0, 0, 0, 1, 5), 4);
        holds(x, 0, 1, 2, 3, 4, 4);
    }

    private static void poursNothing() {
        due.sentence("1, 3 (either), 11, 6, 4, asked in this order.");
        WheelTables x = new WheelTables();
        Works.fill(x, 0, 2, 1, 2);
        x.tray(1, 2, 0);
        due.done(x, "nothing", x.pour(0, 0, 0, 1, 0));
        due.done(x, "nothing, from the end", x.pour(0, 2, 0, 2, 0));
        due.refused(x, "nothing, from behind the end", x.pour(0, 3, 0, 0, 0), 4);
        due.refused(x, "nothing, to behind the end", x.pour(0, 0, 0, 3, 0), 4);
        due.refused(x, "nothing, from ahead of it", x.pour(0, -1, 0, 0, 0), 4);
        due.done(x, "nothing of an empty one", x.pour(1, 0, 1, 0, 0));
        due.refused(x, "one number of an empty one", x.pour(1, 0, 0, 0, 1), 4);
        due.refused(x, "one number to an empty one", x.pour(0, 0, 1, 0, 1), 4);
        holds(x, 0, 1, 2);
    }

    private static void poursInOrder() {
        due.sentence("11 TRAYS of unlike sorts.");
        WheelTables x = new WheelTables();
        for (int sort = 0; sort < 4; sort++) {
            Works.fill(x, sort, sort, 1);
        }
        for (int from = 0; from < 4; from++) {
            for (int to = 0; to < 4; to++) {
                boolean poured = x.pour(from, 0, to, 0, 1);
                due.is("pour of sort " + from + " to sort " + to, poured, from == to);
                due.is("status() behind that", x.status(), from == to ? 0 : 11);
            }
        }
        due.sentence("1, 3 (either), 11, 6, 4, asked in this order.");
        due.refused(x, "unlike sorts ahead of below 0", x.pour(0, 0, 1, 0, -1), 11);
        due.refused(x, "below 0 ahead of no place", x.pour(0, 9, 0, 9, -1), 6);
        x = new WheelTables();
        x.tray(0, 0, 1);
        due.refused(x, "no tray ahead of a missing one", x.pour(1, 0, 4, 0, -1), 1);
        due.refused(x, "a missing one ahead of below 0", x.pour(1, 9, 0, 9, -1), 3);
        due.refused(x, "either", x.pour(0, 9, 1, 9, -1), 3);
    }
}
