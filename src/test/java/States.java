import java.util.ArrayList;
import java.util.List;

/** Works in several states, and all that can be seen of them. */
final class States {
    enum State { FRESH, FURNISHED, FULL, LATE, UNFIT }

    static final int PROBES = 10;
    private static final int[] COPIES = {0, 1, 10, 11, 15, 16};
    private static final int[] ROWS = {0, 1, 2, 39};
    private static final int[] DAYS = {0, 3, 4, 5, 9999};

    private States() {
    }

    static WheelTables make(State state) {
        WheelTables x = new WheelTables();
        if (state == State.FRESH) {
            return x;
        }
        furnish(x);
        switch (state) {
            case FULL:
                crowd(x);
                break;
            case LATE:
                Works.turnOn(x, 0, 998);
                Works.turnOn(x, 2, 1000);
                break;
            case UNFIT:
                x.job(7, 12, 1);
                break;
            default:
                break;
        }
        return x;
    }

    /** Something of all kinds, and room for more; tray 3 is missing, it is day 5, engine 0 is at turn 1. */
    private static void furnish(WheelTables x) {
        Works.fill(x, 0, 0, 10, 6, 12, 2, 13);
        Works.fill(x, 1, 3, 0, 1, 4, 9, 61, 25, 63, 49, 1000000001L);
        Works.fill(x, 2, 2, 1, 3, 8, 2000000000);
        x.engine(3, 3, 0);
        x.engine(7, 4, 0);
        x.engine(2, 1, 0);
        x.set(0, 1, 3);
        x.explain(0, 2, 3);
        x.set(1, 1, 5);
        x.mishap(0, 2, 0, 0, 0);
        x.mishap(0, 3, 1, 1, 2);
        x.mishap(1, 1, 3, 2, 1);
        x.turn(0, 1);
        x.errata(1, 8, 3, 0);
        Works.cards(x, "put 3 -1; print 3; add 3 3 4; div 3 9 5 6;");
        x.run();
        Works.cards(x, "put 3 -1; print 20;");
        Works.feed(x, "put 5 77; print 5; put 6 8; print 6 ;   ");
        x.cast(1, 0, 5);
        x.cast(1, 39, 7);
        x.print(2, 10);
        x.cast(3, 1, 8);
        x.print(3, 5);
        x.tell(4, 1, 8);
        x.tell(5, 0, 6);
        x.job(2, 1, 10);
        x.job(3, 3, 20);
        x.job(2, 1, 15);
    }

    /** As many of all as there may be. */
    private static void crowd(WheelTables x) {
        x.engine(2, 1, 0);
        for (int i = 0; i < 18; i++) {
            x.mishap(0, 500 + i, 0, 0, 0);
            x.print(5, 1);
        }
        for (int i = 0; i < 97; i++) {
            x.cast(5, i % 40, i);
        }
        for (int i = 0; i < 58; i++) {
            x.tell(5, i % 40, i);
        }
        for (int i = 0; i < 4; i++) {
            x.job(2, 1, 1);
        }
        for (int i = 0; i < 23; i++) {
            x.feed(i, i, i, i, i);
        }
    }

    /** What can be seen through one probe; a probe spends the object, and stays below its 512 calls. */
    static List<Long> seen(WheelTables x, int probe) {
        List<Long> seen = new ArrayList<>();
        switch (probe) {
            case 0:
                seeTrays(x, seen);
                break;
            case 1:
                seeEngines(x, seen);
                break;
            case 2:
                seeMishapsLeft(x, seen);
                break;
            case 3:
                seeWhatWasTold(x, seen);
                break;
            case 4:
                note(x, seen, x.run());
                seeRun(x, seen);
                break;
            case 5:
                seeTape(x, seen);
                break;
            case 6:
                seePlates(x, seen);
                break;
            case 7:
                seeDay(x, seen);
                break;
            case 8:
                seeCastsLeft(x, seen);
                break;
            default:
                seeJobsAndRoom(x, seen);
                break;
        }
        return seen;
    }

    private static void note(WheelTables x, List<Long> seen, long answer) {
        seen.add(answer);
        seen.add((long) x.status());
    }

    private static void note(WheelTables x, List<Long> seen, boolean answer) {
        note(x, seen, answer ? 1 : 0);
    }

    private static void seeTrays(WheelTables x, List<Long> seen) {
        for (int tray = 0; tray < 4; tray++) {
            for (int place = 0; place < 10; place++) {
                note(x, seen, x.read(tray, place));
            }
            note(x, seen, x.write(tray, 0, 0x123456789ABCDEFL));
            note(x, seen, x.read(tray, 0));
        }
    }

    private static void seeEngines(WheelTables x, List<Long> seen) {
        for (int engine = 0; engine < 4; engine++) {
            for (int axis = 0; axis < 7; axis++) {
                note(x, seen, x.number(engine, axis));
            }
            for (int i = 0; i < 3; i++) {
                note(x, seen, x.turn(engine, 1));
                note(x, seen, x.number(engine, 0));
                note(x, seen, x.number(engine, 1));
                note(x, seen, x.figure(engine, 0, 1));
            }
        }
    }

    private static void seeMishapsLeft(WheelTables x, List<Long> seen) {
        for (int engine = 0; engine < 4; engine++) {
            int left = 0;
            while (left < 21 && x.mishap(engine, 900, 0, 0, 0)) {
                left++;
            }
            note(x, seen, left);
        }
    }

    private static void seeWhatWasTold(WheelTables x, List<Long> seen) {
        for (int what = 0; what < 4; what++) {
            note(x, seen, x.because(what));
            note(x, seen, x.fault(what));
            note(x, seen, x.right(what / 2, what % 2));
        }
        seeRun(x, seen);
    }

    private static void seeRun(WheelTables x, List<Long> seen) {
        for (int what = 0; what < 4; what++) {
            note(x, seen, x.ran(what));
            note(x, seen, x.printed(what));
        }
        for (int place = 0; place < 20; place++) {
            note(x, seen, x.place(place));
        }
    }

    private static void seeTape(WheelTables x, List<Long> seen) {
        // feed() leaves the STATUS of the call before it, which is not what is asked here
        seen.add((long) x.feed(0x20202020, 0x20202020, 0x20202020, 0x20202020, 0x20202020));
        note(x, seen, x.cards(501));
        note(x, seen, x.cards(40));
        note(x, seen, x.run());
        seeRun(x, seen);
    }

    private static void seePlates(WheelTables x, List<Long> seen) {
        for (int copy : COPIES) {
            for (int row : ROWS) {
                note(x, seen, x.says(copy, row));
            }
            for (int day : DAYS) {
                note(x, seen, x.wrong(copy, day));
            }
        }
        for (int day : DAYS) {
            note(x, seen, x.bad(day));
        }
    }

    /** The first day that is not gone. */
    private static void seeDay(WheelTables x, List<Long> seen) {
        for (int day = 0; day < 10; day++) {
            note(x, seen, x.tell(day, 0, 0));
        }
        note(x, seen, x.bad(9999));
    }

    private static void seeCastsLeft(WheelTables x, List<Long> seen) {
        int casts = 0;
        while (casts < 101 && x.cast(9999, 0, casts)) {
            casts++;
        }
        note(x, seen, casts);
        int tells = 0;
        while (tells < 61 && x.tell(9999, 0, tells)) {
            tells++;
        }
        note(x, seen, tells);
    }

    private static void seeJobsAndRoom(WheelTables x, List<Long> seen) {
        for (int job = 0; job < 8; job++) {
            note(x, seen, x.part());
            note(x, seen, x.partOf(job));
        }
        for (int i = 0; i < 8; i++) {
            note(x, seen, x.job(2, 1, 1000));
        }
        for (int i = 0; i < 5; i++) {
            x.tray(0, 0, 1);
            x.write(0, 0, 2);
            note(x, seen, x.engine(2, 1, 0));
        }
        for (int i = 0; i < 21; i++) {
            note(x, seen, x.print(9999, 1));
        }
    }
}
