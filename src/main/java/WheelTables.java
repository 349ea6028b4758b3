import java.util.Arrays;

/**
 * A works that makes tables by wheels. What each call does stands in the document; every call sets STATUS,
 * but for status(), fault() and feed().
 */
public final class WheelTables {
    public static final int NONE = -1;

    private static final int FINE = 0;
    private static final int NO_TRAY = 1;
    private static final int NO_SUCH = 2;
    private static final int MISSING = 3;
    private static final int TOO_FEW = 4;
    private static final int BAD_NUMBER = 5;
    private static final int BELOW_ZERO = 6;
    private static final int TOO_MANY = 7;
    private static final int THERE_IS_NONE = 8;
    private static final int CANNOT_BE = 9;
    private static final int FAULTY = 10;
    private static final int UNLIKE_SORTS = 11;
    private static final int DAY_GONE = 12;

    private static final int TRAYS = 4;
    private static final int SORTS = 4;
    private static final int MOST_NUMBERS = 60;
    private static final int MOST_ENGINES = 4;
    private static final int LEAST_AXES = 2;
    private static final int MOST_AXES = 7;
    private static final int MOST_WHEELS = 12;
    private static final int LEAST_RADIX = 2;
    private static final int MOST_RADIX = 12;
    private static final int MOST_MISHAPS = 20;
    private static final int SLIP = 0;
    private static final int STICK = 1;
    private static final int JAM = 2;
    private static final int LAST_TURN = 1000;
    private static final int MOST_TURNS_A_CALL = 200;
    private static final int MOST_ROWS = 60;
    private static final int MOST_DEGREE = 4;
    private static final int MOST_TAPE = 500;
    private static final int MOST_CARDS = 40;
    private static final int PLACES = 20;
    private static final long GREATEST = 999999999999L;
    private static final int TURN_FIGURES = 13;
    private static final int BILLION = 1000000000;
    private static final int LAST_DAY = 9999;

    private final Tray[] trays = new Tray[TRAYS];
    private final Engine[] engines = new Engine[MOST_ENGINES];
    private final Explanation explanation = new Explanation();
    private final FinerTable finerTable = new FinerTable();
    private final byte[] tape = new byte[MOST_TAPE];
    private final CardReader reader = new CardReader();
    private final Mill mill = new Mill();
    private final Errata corrections = new Errata();
    private final Plates plates = new Plates();
    private final Jobs jobs = new Jobs();
    private Deck text = new Deck();
    private Deck spare = new Deck();
    private boolean hasText;
    private int engineCount;
    private int tapeLength;
    private int status;

    public WheelTables() {
        for (int i = 0; i < TRAYS; i++) {
            trays[i] = new Tray();
        }
    }

    public int status() {
        return status;
    }

    // ---- TRAYS

    public boolean tray(int tray, int sort, int many) {
        Tray made = trayAt(tray);
        status = newTrayStatus(made, sort, many);
        if (status == FINE) {
            made.make(sort, many);
        }
        return status == FINE;
    }

    public boolean write(int tray, int place, long v) {
        Tray to = trayAt(tray);
        status = trayPlaceStatus(to, place);
        if (status == FINE) {
            to.lay(place, v);
        }
        return status == FINE;
    }

    public long read(int tray, int place) {
        Tray from = trayAt(tray);
        status = trayPlaceStatus(from, place);
        return status == FINE ? from.at(place) : NONE;
    }

    public boolean pour(int tray, int i, int to, int j, int many) {
        Tray source = trayAt(tray);
        Tray target = trayAt(to);
        status = pourStatus(source, target, many);
        if (status == FINE && !(source.hasRow(i, many) && target.hasRow(j, many))) {
            status = TOO_FEW;
        }
        if (status == FINE) {
            source.pourInto(target, i, j, many);
        }
        return status == FINE;
    }

    // ---- ENGINES

    public int engine(int axes, int wheels, int tray) {
        Tray radixes = trayAt(tray);
        status = newEngineStatus(axes, wheels, radixes);
        if (status != FINE) {
            return NONE;
        }
        engines[engineCount] = new Engine(axes, wheels, radixes);
        jobs.partAnew();
        engineCount++;
        return engineCount - 1;
    }

    public int figure(int engine, int axis, int wheel) {
        Engine asked = engineAt(engine);
        status = wheelStatus(asked, axis, wheel);
        return status == FINE ? asked.figureAt(axis, wheel) : NONE;
    }

    public boolean put(int engine, int axis, int wheel, int figure) {
        Engine asked = engineAt(engine);
        status = wheelStatus(asked, axis, wheel);
        if (status == FINE && !asked.hasFigure(wheel, figure)) {
            status = BAD_NUMBER;
        }
        if (status == FINE) {
            asked.putFigure(axis, wheel, figure);
        }
        return status == FINE;
    }

    public long number(int engine, int axis) {
        Engine asked = engineAt(engine);
        status = asked != null && asked.hasAxis(axis) ? FINE : NO_SUCH;
        return status == FINE ? asked.numberOn(axis) : NONE;
    }

    public boolean set(int engine, int tray, int n) {
        Engine asked = engineAt(engine);
        Tray values = trayAt(tray);
        status = engineTrayStatus(asked, values, n, asked == null ? 0 : asked.axes);
        if (status == FINE && !values.allWithin(n, -BILLION, BILLION)) {
            status = BAD_NUMBER;
        }
        if (status == FINE) {
            asked.setUp(values, n);
        }
        return status == FINE;
    }

    public boolean mishap(int engine, int turn, int axis, int wheel, int kind) {
        Engine asked = engineAt(engine);
        status = mishapStatus(asked, turn, axis, wheel, kind);
        if (status == FINE) {
            asked.noteMishap(turn, axis, wheel, kind);
        }
        return status == FINE;
    }

    public boolean mend(int engine) {
        Engine asked = engineAt(engine);
        status = asked == null ? NO_SUCH : FINE;
        if (status == FINE) {
            asked.forgetMishaps();
        }
        return status == FINE;
    }

    public int turn(int engine, int turns) {
        Engine asked = engineAt(engine);
        if (asked == null) {
            status = NO_SUCH;
        } else if (turns < 1 || turns > MOST_TURNS_A_CALL) {
            status = BAD_NUMBER;
        } else {
            status = asked.canTurn(turns) ? FINE : CANNOT_BE;
        }
        if (status != FINE) {
            return NONE;
        }
        for (int i = 0; i < turns; i++) {
            asked.turnOnce();
        }
        return asked.turnsDone();
    }

    public boolean sheet(int engine, int tray, int r) {
        Engine asked = engineAt(engine);
        Tray rows = trayAt(tray);
        status = engineTrayStatus(asked, rows, r, MOST_ROWS);
        if (status == FINE && !asked.canTurn(r)) {
            status = CANNOT_BE;
        }
        if (status != FINE) {
            return false;
        }
        for (int i = 0; i < r; i++) {
            asked.turnOnce();
            rows.lay(i, asked.numberOn(0));
        }
        return true;
    }

    public int explain(int engine, int tray, int r) {
        Engine asked = engineAt(engine);
        Tray rows = trayAt(tray);
        status = engineTrayStatus(asked, rows, r, MOST_ROWS);
        if (status != FINE) {
            return NONE;
        }
        int mishaps = explanation.seek(asked, rows, r);
        if (mishaps == NONE) {
            status = THERE_IS_NONE;
        }
        return mishaps;
    }

    public int because(int what) {
        if (what < 0 || what > 3) {
            status = BAD_NUMBER;
        } else {
            status = explanation.isTold() ? FINE : THERE_IS_NONE;
        }
        return status == FINE ? explanation.detail(what) : NONE;
    }

    public int finer(int tray, int k, int m, int r) {
        Tray values = trayAt(tray);
        status = finerStatus(values, k, m, r);
        if (status != FINE) {
            return NONE;
        }
        int needed = finerTable.figuresNeeded(values, k, m, r);
        if (needed == NONE) {
            status = THERE_IS_NONE;
        }
        return needed;
    }

    // ---- the mill

    public int feed(int a, int b, int c, int d, int e) {
        if (tapeLength + 20 > MOST_TAPE) {
            return NONE;
        }
        tapeBytes(a);
        tapeBytes(b);
        tapeBytes(c);
        tapeBytes(d);
        tapeBytes(e);
        return tapeLength;
    }

    public int cards(int n) {
        if (n < 0 || n > tapeLength) {
            status = BAD_NUMBER;
            return NONE;
        }
        boolean whole = reader.readAll(tape, n, spare);
        tapeLength = 0;
        if (!whole) {
            status = FAULTY;
            return NONE;
        }
        Deck old = text;
        text = spare;
        spare = old;
        hasText = true;
        status = FINE;
        return text.count;
    }

    public int fault(int what) {
        if (what == 0) {
            return reader.fault;
        }
        return what == 1 ? reader.faultPlace : NONE;
    }

    public int run() {
        status = hasText ? FINE : THERE_IS_NONE;
        if (status != FINE) {
            return NONE;
        }
        mill.runThrough(text);
        return mill.printCount();
    }

    public int ran(int what) {
        if (what < 0 || what > 3) {
            status = BAD_NUMBER;
        } else {
            status = mill.hasRun() ? FINE : THERE_IS_NONE;
        }
        return status == FINE ? mill.account(what) : NONE;
    }

    public long printed(int k) {
        status = k >= 0 && k < mill.printCount() ? FINE : THERE_IS_NONE;
        return status == FINE ? mill.printAt(k) : NONE;
    }

    public long place(int place) {
        if (place < 0 || place >= PLACES) {
            status = NO_SUCH;
        } else {
            status = mill.hasRun() ? FINE : THERE_IS_NONE;
        }
        return status == FINE ? mill.numberIn(place) : NONE;
    }

    // ---- turns, ERRATA

    public int turns(long number) {
        status = number < 0 || number > GREATEST ? BAD_NUMBER : FINE;
        return status == FINE ? Mill.leastTurns(number) : NONE;
    }

    public int turnsAt(long number, int k) {
        boolean good = number >= 0 && number <= GREATEST && k >= 0 && k < TURN_FIGURES;
        status = good ? FINE : BAD_NUMBER;
        return status == FINE ? Mill.turnFigure(number, k) : NONE;
    }

    public int errata(int tray, int n, int k, int b) {
        Tray table = trayAt(tray);
        status = errataStatus(table, n, k, b);
        if (status != FINE) {
            return NONE;
        }
        int fewest = corrections.fewest(table, n, k, b);
        if (fewest == NONE) {
            status = THERE_IS_NONE;
        }
        return fewest;
    }

    public int right(int j, int what) {
        if (what < 0 || what > 1) {
            status = BAD_NUMBER;
        } else {
            status = corrections.hasFound(j) ? FINE : THERE_IS_NONE;
        }
        return status == FINE ? corrections.finding(j, what) : NONE;
    }

    // ---- PLATES and JOBS

    public boolean cast(int day, int row, int number) {
        status = plates.rowStatus(day, row, number, plates.castsFull());
        if (status == FINE) {
            plates.addCast(day, row, number);
        }
        return status == FINE;
    }

    public int print(int day, int copies) {
        status = plates.printStatus(day, copies);
        return status == FINE ? plates.addPrint(day, copies) : NONE;
    }

    public boolean tell(int day, int row, int number) {
        status = plates.rowStatus(day, row, number, plates.tellsFull());
        if (status == FINE) {
            plates.addTell(day, row, number);
        }
        return status == FINE;
    }

    public int says(int copy, int row) {
        int printing = plates.printingOf(copy);
        if (!plates.hasRow(row)) {
            status = NO_SUCH;
        } else {
            status = printing == NONE ? THERE_IS_NONE : FINE;
        }
        return status == FINE ? plates.saidIn(printing, row) : NONE;
    }

    public int wrong(int copy, int known) {
        int printing = plates.printingOf(copy);
        if (!plates.isDay(known)) {
            status = BAD_NUMBER;
        } else {
            status = printing == NONE ? THERE_IS_NONE : FINE;
        }
        return status == FINE ? plates.wrongRows(printing, known) : NONE;
    }

    public int bad(int known) {
        status = plates.isDay(known) ? FINE : BAD_NUMBER;
        return status == FINE ? plates.badCopies(known) : NONE;
    }

    public int job(int axes, int wheels, int turns) {
        if (!Engine.canHave(axes, wheels) || turns < 1 || turns > LAST_TURN) {
            status = BAD_NUMBER;
        } else {
            status = jobs.isFull() ? TOO_MANY : FINE;
        }
        return status == FINE ? jobs.take(axes, wheels, turns) : NONE;
    }

    public int part() {
        jobs.partAmong(engines, engineCount);
        status = jobs.canBeParted() ? FINE : CANNOT_BE;
        return status == FINE ? jobs.leastGreatest() : NONE;
    }

    public int partOf(int job) {
        jobs.partAmong(engines, engineCount);
        if (!jobs.has(job)) {
            status = NO_SUCH;
        } else {
            status = jobs.canBeParted() ? FINE : CANNOT_BE;
        }
        return status == FINE ? jobs.engineOf(job) : NONE;
    }

    // ---- what the calls ask first

    private Tray trayAt(int tray) {
        return tray >= 0 && tray < TRAYS ? trays[tray] : null;
    }

    private Engine engineAt(int engine) {
        return engine >= 0 && engine < engineCount ? engines[engine] : null;
    }

    private static int newTrayStatus(Tray made, int sort, int many) {
        if (made == null || sort < 0 || sort >= SORTS) {
            return NO_TRAY;
        }
        if (many > MOST_NUMBERS) {
            return BAD_NUMBER;
        }
        return many < 0 ? BELOW_ZERO : FINE;
    }

    private static int filledTrayStatus(Tray tray) {
        if (tray == null) {
            return NO_TRAY;
        }
        return tray.isMissing() ? MISSING : FINE;
    }

    private static int trayPlaceStatus(Tray tray, int place) {
        int code = filledTrayStatus(tray);
        if (code != FINE) {
            return code;
        }
        return tray.hasPlace(place) ? FINE : TOO_FEW;
    }

    private static int pourStatus(Tray source, Tray target, int many) {
        if (source == null || target == null) {
            return NO_TRAY;
        }
        if (source.isMissing() || target.isMissing()) {
            return MISSING;
        }
        if (!source.isLike(target)) {
            return UNLIKE_SORTS;
        }
        return many < 0 ? BELOW_ZERO : FINE;
    }

    private int newEngineStatus(int axes, int wheels, Tray radixes) {
        int code = filledTrayStatus(radixes);
        if (code != FINE) {
            return code;
        }
        if (!Engine.canHave(axes, wheels)) {
            return BAD_NUMBER;
        }
        if (radixes.length() < wheels) {
            return TOO_FEW;
        }
        if (!radixes.allWithin(wheels, LEAST_RADIX, MOST_RADIX)) {
            return BAD_NUMBER;
        }
        return engineCount < MOST_ENGINES ? FINE : TOO_MANY;
    }

    private static int wheelStatus(Engine engine, int axis, int wheel) {
        boolean there = engine != null && engine.hasAxis(axis) && engine.hasWheel(wheel);
        return there ? FINE : NO_SUCH;
    }

    private static int engineTrayStatus(Engine engine, Tray tray, int many, int most) {
        if (tray == null) {
            return NO_TRAY;
        }
        if (engine == null) {
            return NO_SUCH;
        }
        if (tray.isMissing()) {
            return MISSING;
        }
        if (many < 1 || many > most) {
            return BAD_NUMBER;
        }
        return tray.length() < many ? TOO_FEW : FINE;
    }

    private static int mishapStatus(Engine engine, int turn, int axis, int wheel, int kind) {
        int code = wheelStatus(engine, axis, wheel);
        if (code != FINE) {
            return code;
        }
        if (engine.isLastAxis(axis)) {
            return NO_SUCH;
        }
        if (turn < 1 || turn > LAST_TURN || kind < SLIP || kind > JAM) {
            return BAD_NUMBER;
        }
        return engine.mishapsFull() ? TOO_MANY : FINE;
    }

    private static int finerStatus(Tray values, int k, int m, int r) {
        int code = filledTrayStatus(values);
        if (code != FINE) {
            return code;
        }
        if (k < 1 || k > MOST_DEGREE || m < 2 || m > 20 || r < 1 || r > MOST_ROWS) {
            return BAD_NUMBER;
        }
        if (values.length() < k + 1) {
            return TOO_FEW;
        }
        return values.allWithin(k + 1, -10000, 10000) ? FINE : BAD_NUMBER;
    }

    private static int errataStatus(Tray table, int n, int k, int b) {
        int code = filledTrayStatus(table);
        if (code != FINE) {
            return code;
        }
        boolean orderGood = k >= 1 && k <= MOST_DEGREE && k < n;
        if (n < 3 || n > Errata.MOST_VALUES || !orderGood || b < 0 || b > 1000) {
            return BAD_NUMBER;
        }
        if (table.length() < n) {
            return TOO_FEW;
        }
        return table.allWithin(n, 0, Errata.GREATEST_VALUE) ? FINE : BAD_NUMBER;
    }

    private void tapeBytes(int four) {
        for (int shift = 24; shift >= 0 && tapeLength < MOST_TAPE; shift -= 8) {
            tape[tapeLength] = (byte) (four >> shift);
            tapeLength++;
        }
    }

    /** A row of numbers with sign, cut to the bits of its sort. */
    private static final class Tray {
        private final long[] numbers = new long[MOST_NUMBERS];
        private int sort = NONE;
        private int many;

        boolean isMissing() {
            return sort == NONE;
        }

        boolean isLike(Tray other) {
            return sort == other.sort;
        }

        int length() {
            return many;
        }

        void make(int newSort, int newMany) {
            sort = newSort;
            many = newMany;
            Arrays.fill(numbers, 0L);
        }

        boolean hasPlace(int place) {
            return place >= 0 && place < many;
        }

        /** An empty row may begin right behind the last number, too. */
        boolean hasRow(int from, int length) {
            return from >= 0 && length >= 0 && from <= many - length;
        }

        long at(int place) {
            return hasPlace(place) ? numbers[place] : NONE;
        }

        void lay(int place, long v) {
            if (hasPlace(place)) {
                numbers[place] = cut(v);
            }
        }

        long cut(long v) {
            switch (sort) {
                case 0:
                    return (byte) v;
                case 1:
                    return (short) v;
                case 2:
                    return (int) v;
                default:
                    return v;
            }
        }

        boolean allWithin(int count, long least, long most) {
            for (int i = 0; i < count; i++) {
                long v = at(i);
                if (v < least || v > most) {
                    return false;
                }
            }
            return true;
        }

        void pourInto(Tray target, int i, int j, int length) {
            if (hasRow(i, length) && target.hasRow(j, length)) {
                System.arraycopy(numbers, i, target.numbers, j, length);
            }
        }
    }

    /** How axes follow from values, and how they move if they are held as numbers and not as wheels. */
    private static final class Differences {
        private Differences() {
        }

        /** Values at 0, 1 .. become the differences of each order at 0. */
        static void atZero(long[] values, int n) {
            int many = Math.min(n, values.length);
            for (int order = 1; order < many; order++) {
                for (int j = many - 1; j >= order; j--) {
                    values[j] -= values[j - 1];
                }
            }
        }

        /**
         * Values at 0, 1 .. become what the axes show at 0. The even axes move ahead of the odd ones in a turn,
         * so two axes each stand one step further back in the table: axis j is the j-th difference at -(j / 2).
         */
        static void toAxes(long[] values, int n) {
            int many = Math.min(n, values.length);
            atZero(values, many);
            for (int first = 2; first < many; first += 2) {
                for (int j = many - 2; j >= first; j--) {
                    values[j] -= values[j + 1];
                }
            }
        }

        /** A turn without mishaps, of numbers from 0 to less than all; all is 0 for axes without ends. */
        static void turnAxes(long[] axis, int axes, long all) {
            int many = Math.min(axes, axis.length);
            for (int to = 0; to + 1 < many; to += 2) {
                axis[to] = sum(axis[to], axis[to + 1], all);
            }
            for (int to = 1; to + 1 < many; to += 2) {
                axis[to] = sum(axis[to], axis[to + 1], all);
            }
        }

        static long sum(long a, long b, long all) {
            return all > 0 && a + b >= all ? a + b - all : a + b;
        }

        /** To the nearest whole number, a half up. */
        static long nearest(long number, long by) {
            return by > 0 ? Math.floorDiv(2 * number + by, 2 * by) : number;
        }
    }

    /** An engine of figure wheels: what it shows, and the mishaps that are told of it. */
    private static final class Engine {
        private static final int STUCK = 1;
        private static final int JAMMED = 2;

        private final int axes;
        private final int wheels;
        private final int[] radix;
        private final long[] weight;
        private final long all;
        private final int[] figures;
        private final int[] trouble;
        private final boolean[] warned;
        private final long[] axisNumbers = new long[MOST_AXES];
        private final int[] mishapTurn = new int[MOST_MISHAPS];
        private final int[] mishapAxis = new int[MOST_MISHAPS];
        private final int[] mishapWheel = new int[MOST_MISHAPS];
        private final int[] mishapKind = new int[MOST_MISHAPS];
        private int mishaps;
        private int turn;

        Engine(int axesAsked, int wheelsAsked, Tray radixes) {
            axes = Math.max(LEAST_AXES, Math.min(MOST_AXES, axesAsked));
            wheels = Math.max(1, Math.min(MOST_WHEELS, wheelsAsked));
            radix = new int[wheels];
            weight = new long[wheels];
            figures = new int[axes * wheels];
            trouble = new int[axes * wheels];
            warned = new boolean[wheels];
            long product = 1;
            for (int i = 0; i < wheels; i++) {
                // figures are found by dividing by the radix: it must never be 0
                radix[i] = (int) Math.max(LEAST_RADIX, radixes.at(i));
                weight[i] = product;
                product *= radix[i];
            }
            all = product;
        }

        static boolean canHave(int axes, int wheels) {
            return axes >= LEAST_AXES && axes <= MOST_AXES && wheels >= 1 && wheels <= MOST_WHEELS;
        }

        boolean hasAxis(int axis) {
            return axis >= 0 && axis < axes;
        }

        boolean isLastAxis(int axis) {
            return axis == axes - 1;
        }

        boolean hasWheel(int wheel) {
            return wheel >= 0 && wheel < wheels;
        }

        boolean hasFigure(int wheel, int figure) {
            return hasWheel(wheel) && figure >= 0 && figure < radix[wheel];
        }

        int figureAt(int axis, int wheel) {
            return hasAxis(axis) && hasWheel(wheel) ? figures[axis * wheels + wheel] : NONE;
        }

        void putFigure(int axis, int wheel, int figure) {
            if (hasAxis(axis) && hasFigure(wheel, figure)) {
                figures[axis * wheels + wheel] = figure;
            }
        }

        long numberOn(int axis) {
            if (!hasAxis(axis)) {
                return NONE;
            }
            long number = 0;
            for (int i = 0; i < wheels; i++) {
                number += figures[axis * wheels + i] * weight[i];
            }
            return number;
        }

        /** The figure that a wheel shows of a number from 0 to less than ALL. */
        int figureOf(long number, int wheel) {
            return hasWheel(wheel) ? (int) (number / weight[wheel] % radix[wheel]) : 0;
        }

        void copyNumbers(long[] to) {
            for (int axis = 0; axis < axes && axis < to.length; axis++) {
                to[axis] = numberOn(axis);
            }
        }

        void setUp(Tray values, int n) {
            Arrays.fill(axisNumbers, 0L);
            for (int i = 0; i < n && i < MOST_AXES; i++) {
                axisNumbers[i] = values.at(i);
            }
            Differences.toAxes(axisNumbers, n);
            for (int axis = 0; axis < axes; axis++) {
                long number = Math.floorMod(axisNumbers[axis], all);
                for (int i = 0; i < wheels; i++) {
                    figures[axis * wheels + i] = figureOf(number, i);
                }
            }
            turn = 0;
        }

        boolean mishapsFull() {
            return mishaps >= MOST_MISHAPS;
        }

        void noteMishap(int inTurn, int axis, int wheel, int kind) {
            if (mishapsFull() || !hasAxis(axis) || !hasWheel(wheel)) {
                return;
            }
            mishapTurn[mishaps] = inTurn;
            mishapAxis[mishaps] = axis;
            mishapWheel[mishaps] = wheel;
            mishapKind[mishaps] = kind;
            mishaps++;
        }

        void forgetMishaps() {
            mishaps = 0;
        }

        int turnsDone() {
            return turn;
        }

        boolean canTurn(int more) {
            return turn + more <= LAST_TURN;
        }

        void turnOnce() {
            turn++;
            markTrouble();
            for (int axis = 0; axis + 1 < axes; axis += 2) {
                addNextTo(axis);
            }
            for (int axis = 1; axis + 1 < axes; axis += 2) {
                addNextTo(axis);
            }
            slipAndClear();
        }

        private void markTrouble() {
            for (int i = 0; i < mishaps; i++) {
                if (mishapTurn[i] == turn && mishapKind[i] != SLIP) {
                    trouble[mishapAxis[i] * wheels + mishapWheel[i]] |= mishapKind[i] == STICK ? STUCK : JAMMED;
                }
            }
        }

        private void addNextTo(int axis) {
            int to = axis * wheels;
            int from = to + wheels;
            for (int i = 0; i < wheels; i++) {
                boolean jammed = (trouble[to + i] & JAMMED) != 0;
                int moved = figures[to + i] + (jammed ? 0 : figures[from + i]);
                warned[i] = moved >= radix[i];
                figures[to + i] = warned[i] ? moved - radix[i] : moved;
            }
            for (int i = 1; i < wheels; i++) {
                boolean stuck = (trouble[to + i] & STUCK) != 0;
                if (warned[i - 1] && !stuck) {
                    carryTo(to + i, i);
                }
            }
        }

        private void carryTo(int at, int wheel) {
            figures[at]++;
            if (figures[at] == radix[wheel]) {
                figures[at] = 0;
                warned[wheel] = true;
            }
        }

        private void slipAndClear() {
            for (int i = 0; i < mishaps; i++) {
                if (mishapTurn[i] == turn) {
                    int at = mishapAxis[i] * wheels + mishapWheel[i];
                    trouble[at] = 0;
                    if (mishapKind[i] == SLIP) {
                        figures[at] = figures[at] == 0 ? radix[mishapWheel[i]] - 1 : figures[at] - 1;
                    }
                }
            }
        }
    }

    /**
     * Which mishap explains a sheet. Adding is linear, so a mishap is a number that an axis has lost in a turn, and
     * what is astray on the other axes behind that turns on like an engine of its own.
     */
    private static final class Explanation {
        private final long[] before = new long[MOST_AXES];
        private final long[] after = new long[MOST_AXES];
        private final long[] astray = new long[MOST_AXES];
        private final long[] shown = new long[MOST_ROWS];
        private boolean told;
        private int turn;
        private int axis;
        private int wheel;
        private int kind;

        boolean isTold() {
            return told;
        }

        int detail(int what) {
            switch (what) {
                case 0:
                    return turn;
                case 1:
                    return axis;
                case 2:
                    return wheel;
                default:
                    return kind;
            }
        }

        /** How many mishaps explain it, 0 or 1; NONE if neither. */
        int seek(Engine engine, Tray sheet, int rows) {
            int many = Math.min(rows, MOST_ROWS);
            int firstWrong = showWithoutMishap(engine, sheet, many);
            if (firstWrong == NONE) {
                told = false;
                return 0;
            }
            engine.copyNumbers(after);
            // a mishap behind the first wrong row comes too late to explain it
            for (int row = 0; row <= firstWrong; row++) {
                System.arraycopy(after, 0, before, 0, MOST_AXES);
                Differences.turnAxes(after, engine.axes, engine.all);
                if (seekInTurn(engine, sheet, row, many)) {
                    return 1;
                }
            }
            return NONE;
        }

        private int showWithoutMishap(Engine engine, Tray sheet, int rows) {
            int firstWrong = NONE;
            engine.copyNumbers(after);
            for (int row = 0; row < rows; row++) {
                Differences.turnAxes(after, engine.axes, engine.all);
                shown[row] = after[0];
                if (firstWrong == NONE && sheet.cut(shown[row]) != sheet.at(row)) {
                    firstWrong = row;
                }
            }
            return firstWrong;
        }

        private boolean seekInTurn(Engine engine, Tray sheet, int row, int rows) {
            for (int a = 0; a + 1 < engine.axes; a++) {
                for (int w = 0; w < engine.wheels; w++) {
                    for (int k = SLIP; k <= JAM; k++) {
                        if (leadAstray(engine, a, w, k) && agreesFrom(engine, sheet, row, rows)) {
                            tellOf(row + 1, a, w, k);
                            return true;
                        }
                    }
                }
            }
            return false;
        }

        private void tellOf(int newTurn, int newAxis, int newWheel, int newKind) {
            told = true;
            turn = newTurn;
            axis = newAxis;
            wheel = newWheel;
            kind = newKind;
        }

        /** Lays out what is astray behind the turn of a mishap; false if nothing is, for that explains no more. */
        private boolean leadAstray(Engine engine, int a, int w, int k) {
            long lost = lostBy(engine, a, w, k);
            Arrays.fill(astray, 0L);
            astray[a] = lost > 0 ? engine.all - lost : -lost;
            if (k != SLIP && a > 0 && a % 2 == 0) {
                // an even axis is added on in the same turn, ahead of what slips at the turn's end
                astray[a - 1] = astray[a];
            }
            return lost != 0;
        }

        private boolean agreesFrom(Engine engine, Tray sheet, int row, int rows) {
            for (int i = row; i < rows; i++) {
                long number = Differences.sum(shown[i], astray[0], engine.all);
                if (sheet.cut(number) != sheet.at(i)) {
                    return false;
                }
                Differences.turnAxes(astray, engine.axes, engine.all);
            }
            return true;
        }

        /** What the number on an axis loses by a mishap in the turn from before to after. */
        private long lostBy(Engine engine, int a, int w, int k) {
            long weight = engine.weight[w];
            if (k == SLIP) {
                return engine.figureOf(after[a], w) > 0 ? weight : -(engine.radix[w] - 1) * weight;
            }
            // the odd axes are added to behind the even ones
            long added = a % 2 == 0 ? before[a + 1] : after[a + 1];
            if (k == JAM) {
                return engine.figureOf(added, w) * weight;
            }
            if (weight <= 0) {
                return 0;
            }
            boolean carried = before[a] % weight + added % weight >= weight;
            return carried ? weight : 0;
        }
    }

    /** How many figures more a finer table needs. */
    private static final class FinerTable {
        private static final int MOST_FIGURES = 6;

        private final long[] differences = new long[MOST_DEGREE + 1];
        private final long[] exactStart = new long[MOST_DEGREE + 1];
        private final long[] exact = new long[MOST_DEGREE + 1];
        private final long[] rounded = new long[MOST_DEGREE + 1];

        /** The least number of figures, 0 to 6; NONE if it is more. */
        int figuresNeeded(Tray values, int degree, int m, int rows) {
            int k = Math.min(degree, MOST_DEGREE);
            for (int i = 0; i <= k; i++) {
                differences[i] = values.at(i);
            }
            Differences.atZero(differences, k + 1);
            long scale = 1;
            for (int j = 1; j <= k; j++) {
                scale *= (long) m * j;
            }
            for (int i = 0; i <= k; i++) {
                exactStart[i] = scaledValue(i, k, m);
            }
            Differences.toAxes(exactStart, k + 1);
            long unit = 1;
            for (int figures = 0; figures <= MOST_FIGURES; figures++) {
                if (allRight(k, scale, unit, rows)) {
                    return figures;
                }
                unit *= 10;
            }
            return NONE;
        }

        /** The polynomial at i by m, times m to the k and k!, which makes it whole: Newton's form from within. */
        private long scaledValue(int i, int k, int m) {
            long sum = differences[k];
            long scale = 1;
            for (int j = k; j >= 1; j--) {
                scale *= (long) m * j;
                sum = differences[j - 1] * scale + (i - (long) (j - 1) * m) * sum;
            }
            return sum;
        }

        private boolean allRight(int k, long scale, long unit, int rows) {
            for (int axis = 0; axis <= k; axis++) {
                exact[axis] = exactStart[axis];
                rounded[axis] = Differences.nearest(exactStart[axis] * unit, scale);
            }
            for (int row = 0; row < rows; row++) {
                if (Differences.nearest(exact[0], scale) != Differences.nearest(rounded[0], unit)) {
                    return false;
                }
                Differences.turnAxes(exact, k + 1, 0);
                Differences.turnAxes(rounded, k + 1, 0);
            }
            return true;
        }
    }

    /** The cards of a text; a card's numbers are its places, or how far it leads. */
    private static final class Deck {
        private static final int PUT = 0;
        private static final int ADD = 1;
        private static final int SUB = 2;
        private static final int MUL = 3;
        private static final int DIV = 4;
        private static final int PRINT = 5;
        private static final int BACK = 6;
        private static final int ON = 7;
        private static final int ALWAYS = 0;
        private static final int IF_UP = 1;
        private static final int IF_DOWN = 2;
        private static final int NUMBERS_A_CARD = 4;

        private final int[] kind = new int[MOST_CARDS];
        private final int[] when = new int[MOST_CARDS];
        private final int[] numbers = new int[MOST_CARDS * NUMBERS_A_CARD];
        private final int[] leadStart = new int[MOST_CARDS];
        private final long[] whole = new long[MOST_CARDS];
        private int count;

        boolean isFull() {
            return count >= MOST_CARDS;
        }

        boolean hasCard(int card) {
            return card >= 0 && card < count;
        }

        int kindOf(int card) {
            return hasCard(card) ? kind[card] : NONE;
        }

        int whenOf(int card) {
            return hasCard(card) ? when[card] : ALWAYS;
        }

        long wholeOf(int card) {
            return hasCard(card) ? whole[card] : 0;
        }

        int numberOf(int card, int which) {
            boolean there = hasCard(card) && which >= 0 && which < NUMBERS_A_CARD;
            return there ? numbers[card * NUMBERS_A_CARD + which] : 0;
        }

        void noteNumber(int which, int number) {
            if (!isFull() && which >= 0 && which < NUMBERS_A_CARD) {
                numbers[count * NUMBERS_A_CARD + which] = number;
            }
        }

        boolean isLead(int card) {
            return kindOf(card) == BACK || kindOf(card) == ON;
        }

        /** The card to which a back or on leads. */
        int goalOf(int card) {
            int far = numberOf(card, 0);
            return kindOf(card) == BACK ? card - far : card + far;
        }

        static int placesOf(int kind) {
            switch (kind) {
                case PUT:
                case PRINT:
                    return 1;
                case ADD:
                case SUB:
                case MUL:
                    return 3;
                case DIV:
                    return 4;
                default:
                    return 0;
            }
        }
    }

    /** Reads a text token by token; the first fault ends the reading. */
    private static final class CardReader {
        private static final int END = 0;
        private static final int WORD = 1;
        private static final int NUMBER = 2;
        private static final int SEMICOLON = 3;
        private static final int MINUS = 4;
        private static final int NO_TOKEN = 5;
        private static final int MOST_DIGITS = 12;

        private static final int NO_FAULT = 0;
        private static final int UNKNOWN_SIGN = 1;
        private static final int OUT_OF_PLACE = 2;
        private static final int CARD_TOO_MANY = 3;
        private static final int IMPOSSIBLE_NUMBER = 4;
        private static final int LEADS_AWAY = 5;

        private byte[] bytes = new byte[0];
        private int length;
        private int at;
        private int token;
        private int start;
        private long value;
        private int fault = NONE;
        private int faultPlace = NONE;

        boolean readAll(byte[] tape, int n, Deck deck) {
            bytes = tape;
            length = Math.min(n, tape.length);
            at = 0;
            fault = NO_FAULT;
            faultPlace = NONE;
            deck.count = 0;
            nextToken();
            for (int i = 0; i <= MOST_CARDS && fault == NO_FAULT && token != END; i++) {
                readCard(deck);
            }
            if (fault == NO_FAULT) {
                checkLeads(deck);
            }
            return fault == NO_FAULT;
        }

        private void readCard(Deck deck) {
            int kind = cardKind();
            if (kind == NONE) {
                refuse(OUT_OF_PLACE);
                return;
            }
            if (deck.isFull()) {
                refuse(CARD_TOO_MANY);
                return;
            }
            nextToken();
            deck.kind[deck.count] = kind;
            deck.when[deck.count] = Deck.ALWAYS;
            int places = Deck.placesOf(kind);
            for (int i = 0; i < places && fault == NO_FAULT; i++) {
                deck.noteNumber(i, readNumber(0, PLACES - 1));
            }
            if (kind == Deck.PUT) {
                deck.whole[deck.count] = readWhole();
            }
            if (kind == Deck.BACK || kind == Deck.ON) {
                readLead(deck);
            }
            take(SEMICOLON);
            deck.count++;
        }

        private void readLead(Deck deck) {
            deck.leadStart[deck.count] = start;
            deck.noteNumber(0, readNumber(1, MOST_CARDS));
            if (fault == NO_FAULT && token == WORD) {
                deck.when[deck.count] = readWhen();
            }
        }

        private int readWhen() {
            if (!wordIs("if")) {
                refuse(OUT_OF_PLACE);
                return Deck.ALWAYS;
            }
            nextToken();
            boolean up = wordIs("up");
            if (!up && !wordIs("down")) {
                refuse(OUT_OF_PLACE);
                return Deck.ALWAYS;
            }
            nextToken();
            return up ? Deck.IF_UP : Deck.IF_DOWN;
        }

        private int readNumber(int least, int most) {
            long number = value;
            if (token != NUMBER) {
                refuse(OUT_OF_PLACE);
            } else if (number < least || number > most) {
                refuse(IMPOSSIBLE_NUMBER);
            } else {
                nextToken();
                return (int) number;
            }
            return 0;
        }

        private long readWhole() {
            boolean below = fault == NO_FAULT && token == MINUS;
            if (below) {
                nextToken();
            }
            long number = value;
            take(NUMBER);
            return below ? -number : number;
        }

        private void take(int due) {
            if (fault != NO_FAULT) {
                return;
            }
            if (token == due) {
                nextToken();
            } else {
                refuse(OUT_OF_PLACE);
            }
        }

        private void refuse(int kind) {
            if (fault == NO_FAULT) {
                fault = token == NO_TOKEN ? UNKNOWN_SIGN : kind;
                faultPlace = start;
            }
        }

        private void checkLeads(Deck deck) {
            for (int card = 0; card < deck.count; card++) {
                if (deck.isLead(card) && (deck.goalOf(card) < 0 || deck.goalOf(card) > deck.count)) {
                    fault = LEADS_AWAY;
                    faultPlace = deck.leadStart[card];
                    return;
                }
            }
        }

        private int cardKind() {
            if (wordIs("put")) {
                return Deck.PUT;
            }
            if (wordIs("add")) {
                return Deck.ADD;
            }
            if (wordIs("sub")) {
                return Deck.SUB;
            }
            if (wordIs("mul")) {
                return Deck.MUL;
            }
            if (wordIs("div")) {
                return Deck.DIV;
            }
            if (wordIs("print")) {
                return Deck.PRINT;
            }
            if (wordIs("back")) {
                return Deck.BACK;
            }
            return wordIs("on") ? Deck.ON : NONE;
        }

        private boolean wordIs(String word) {
            if (token != WORD || at - start != word.length()) {
                return false;
            }
            for (int i = 0; i < word.length(); i++) {
                if (signAt(start + i) != word.charAt(i)) {
                    return false;
                }
            }
            return true;
        }

        private void nextToken() {
            while (at < length && (signAt(at) == ' ' || signAt(at) == '\n')) {
                at++;
            }
            start = at;
            token = tokenAt(at);
            if (token != END) {
                at++;
            }
            boolean goesOn = token == WORD || token == NUMBER;
            while (goesOn && at < length && tokenAt(at) == token) {
                at++;
            }
            if (token == NUMBER && at - start > MOST_DIGITS) {
                token = NO_TOKEN;
            }
            value = token == NUMBER ? valueOf(start, at) : 0;
        }

        private long valueOf(int from, int to) {
            long number = 0;
            for (int i = from; i < to; i++) {
                number = number * 10 + signAt(i) - '0';
            }
            return number;
        }

        /** Which token the sign at a place belongs to. */
        private int tokenAt(int place) {
            int sign = signAt(place);
            if (sign == NONE) {
                return END;
            }
            if (sign >= 'a' && sign <= 'z') {
                return WORD;
            }
            if (sign >= '0' && sign <= '9') {
                return NUMBER;
            }
            if (sign == ';') {
                return SEMICOLON;
            }
            return sign == '-' ? MINUS : NO_TOKEN;
        }

        private int signAt(int place) {
            return place >= 0 && place < length && place < bytes.length ? bytes[place] & 255 : NONE;
        }
    }

    /** The mill: runs a deck of cards, and keeps what came of the latest run. */
    private static final class Mill {
        private static final int MOST_PRINTS = 40;
        private static final int MOST_DONE = 5000;
        private static final int NO_ALARM = 0;
        private static final int TOO_GREAT = 1;
        private static final int DIVIDED_BY_ZERO = 2;
        private static final int PRINT_TOO_MANY = 3;
        private static final int CARD_TOO_MANY = 4;
        private static final int NEVER = 1000;

        private final long[] places = new long[PLACES];
        private final long[] prints = new long[MOST_PRINTS];
        private int printed;
        private boolean hasRun;
        private boolean leverUp;
        private int at;
        private int cranks;
        private int alarm;
        private int alarmCard;
        private int done;

        boolean hasRun() {
            return hasRun;
        }

        int printCount() {
            return printed;
        }

        long printAt(int k) {
            return k >= 0 && k < printed ? prints[k] : NONE;
        }

        long numberIn(int place) {
            return place >= 0 && place < PLACES ? places[place] : 0;
        }

        int account(int what) {
            switch (what) {
                case 0:
                    return cranks;
                case 1:
                    return alarm;
                case 2:
                    return alarmCard;
                default:
                    return done;
            }
        }

        void runThrough(Deck deck) {
            begin();
            for (int i = 0; i <= MOST_DONE && alarm == NO_ALARM && deck.hasCard(at); i++) {
                if (done == MOST_DONE) {
                    alarm = CARD_TOO_MANY;
                } else {
                    doCard(deck);
                }
                if (alarm == NO_ALARM) {
                    done++;
                } else {
                    alarmCard = at;
                }
            }
        }

        private void begin() {
            Arrays.fill(places, 0L);
            hasRun = true;
            printed = 0;
            leverUp = false;
            at = 0;
            cranks = 0;
            alarm = NO_ALARM;
            alarmCard = NONE;
            done = 0;
        }

        /** Does the card and moves on to the next one; at an alarm all stays as it was. */
        private void doCard(Deck deck) {
            long a = numberIn(deck.numberOf(at, 0));
            long b = numberIn(deck.numberOf(at, 1));
            switch (deck.kindOf(at)) {
                case Deck.PUT:
                    lay(deck.numberOf(at, 0), deck.wholeOf(at));
                    goOn(1);
                    break;
                case Deck.ADD:
                    conclude(deck, a + b, 2);
                    break;
                case Deck.SUB:
                    conclude(deck, a - b, 2);
                    break;
                case Deck.MUL:
                    multiply(deck, a, b);
                    break;
                case Deck.DIV:
                    divide(deck, a, b);
                    break;
                case Deck.PRINT:
                    printNumber(a);
                    break;
                default:
                    lead(deck);
                    break;
            }
        }

        private void goOn(int cost) {
            cranks += cost;
            at++;
        }

        private void lay(int place, long number) {
            if (place >= 0 && place < PLACES) {
                places[place] = number;
            }
        }

        private void printNumber(long number) {
            if (printed >= MOST_PRINTS) {
                alarm = PRINT_TOO_MANY;
                return;
            }
            prints[printed] = number;
            printed++;
            goOn(1);
        }

        private void lead(Deck deck) {
            int when = deck.whenOf(at);
            boolean held = when == Deck.IF_UP && !leverUp || when == Deck.IF_DOWN && leverUp;
            if (held) {
                at++;
                return;
            }
            if (deck.kindOf(at) == Deck.BACK) {
                cranks += deck.numberOf(at, 0);
            }
            at = deck.goalOf(at);
        }

        private void multiply(Deck deck, long a, long b) {
            long size = Math.abs(a);
            // the product itself might not go into a long
            if (size > 0 && Math.abs(b) > GREATEST / size) {
                alarm = TOO_GREAT;
            } else {
                conclude(deck, a * b, 2 + leastTurns(size));
            }
        }

        private void divide(Deck deck, long a, long b) {
            if (b == 0) {
                alarm = DIVIDED_BY_ZERO;
                return;
            }
            int fourth = deck.numberOf(at, 3);
            long quotient = a / b;
            conclude(deck, quotient, 3 + leastTurns(Math.abs(quotient)));
            // behind the quotient, so that it is what stays if both have one place
            lay(fourth, a % b);
        }

        private void conclude(Deck deck, long result, int cost) {
            if (result > GREATEST || result < -GREATEST) {
                alarm = TOO_GREAT;
                return;
            }
            lay(deck.numberOf(at, 2), result);
            leverUp = result < 0;
            goOn(cost);
        }

        /** The least sum of sizes of figures from -9 to 9 that make a number. */
        static int leastTurns(long number) {
            int plain = 0;
            int carried = NEVER;
            long rest = number;
            for (int i = 0; i < TURN_FIGURES && rest > 0; i++) {
                int digit = (int) (rest % 10);
                int withoutCarry = Math.min(plain + digit, digit < 9 ? carried + digit + 1 : NEVER);
                int withCarry = Math.min(digit > 0 ? plain + 10 - digit : NEVER, carried + 9 - digit);
                plain = withoutCarry;
                carried = withCarry;
                rest /= 10;
            }
            return Math.min(plain, carried + 1);
        }

        static int turnFigure(long number, int k) {
            long rest = number;
            int figure = 0;
            for (int i = 0; i <= k && i < TURN_FIGURES; i++) {
                figure = lowestFigure(rest);
                rest = (rest - figure) / 10;
            }
            return figure;
        }

        /** Of equal sums the greater figure. */
        private static int lowestFigure(long number) {
            int digit = (int) (number % 10);
            long above = number / 10;
            boolean beyond = digit > 0 && 10 - digit + leastTurns(above + 1) < digit + leastTurns(above);
            return beyond ? digit - 10 : digit;
        }
    }

    /** Errata of a printed table. */
    private static final class Errata {
        private static final int MOST_VALUES = 20;
        private static final int GREATEST_VALUE = 99999999;
        private static final int FIGURES = 8;
        private static final int MOST_OPTIONS = 9 * FIGURES + FIGURES - 1;
        private static final int[] POWERS = {1, 10, 100, 1000, 10000, 100000, 1000000, 10000000};
        /** Row k: how often each value counts in a difference of order k. */
        private static final int[] CHOICES = {
            1, 0, 0, 0, 0,
            1, 1, 0, 0, 0,
            1, 2, 1, 0, 0,
            1, 3, 3, 1, 0,
            1, 4, 6, 4, 1};

        private final int[] values = new int[MOST_VALUES];
        private final long[] differences = new long[MOST_VALUES];
        private final int[][] options = new int[MOST_VALUES][MOST_OPTIONS];
        private final int[] optionCount = new int[MOST_VALUES];
        private final int[] which = new int[2];
        private final int[] should = new int[2];
        private int found;
        private int many;
        private int order;
        private int bound;
        private long low;
        private long high;

        boolean hasFound(int j) {
            return j >= 0 && j < found;
        }

        int finding(int j, int what) {
            if (!hasFound(j)) {
                return NONE;
            }
            return what == 0 ? which[j] : should[j];
        }

        /** How many values are put right, 0 to 2; NONE if that is not enough, and what was found before stays. */
        int fewest(Tray table, int n, int k, int b) {
            many = Math.min(n, MOST_VALUES);
            order = Math.max(0, Math.min(k, MOST_DEGREE));
            bound = b;
            for (int i = 0; i < many; i++) {
                values[i] = (int) table.at(i);
            }
            findDifferences();
            if (!isRoughBeside(NONE, NONE)) {
                found = 0;
                return 0;
            }
            for (int i = 0; i < many; i++) {
                listOptions(i);
            }
            if (putOneRight()) {
                return 1;
            }
            return putTwoRight() ? 2 : NONE;
        }

        private void findDifferences() {
            for (int t = 0; t + order < many; t++) {
                long sum = 0;
                for (int s = 0; s <= order; s++) {
                    sum += factor(s) * values[t + s];
                }
                differences[t] = sum;
            }
        }

        /** How often the value s behind a difference's first one counts in it, with its sign; 0 if it does not. */
        private long factor(int s) {
            if (s < 0 || s > order) {
                return 0;
            }
            int choices = CHOICES[order * 5 + s];
            return (order - s) % 2 == 0 ? choices : -choices;
        }

        /** If a difference in which neither value counts is too great. */
        private boolean isRoughBeside(int one, int other) {
            for (int t = 0; t + order < many; t++) {
                boolean free = (one == NONE || factor(one - t) == 0) && (other == NONE || factor(other - t) == 0);
                if (free && (differences[t] > bound || differences[t] < -bound)) {
                    return true;
                }
            }
            return false;
        }

        private void listOptions(int i) {
            optionCount[i] = 0;
            for (int p = 0; p < FIGURES; p++) {
                int figure = figureOf(i, p);
                for (int other = 0; other <= 9; other++) {
                    if (other != figure) {
                        addOption(i, values[i] + (other - figure) * POWERS[p]);
                    }
                }
            }
            for (int p = 0; p + 1 < FIGURES; p++) {
                int less = figureOf(i, p + 1) - figureOf(i, p);
                if (less != 0) {
                    addOption(i, values[i] + less * POWERS[p] - less * POWERS[p + 1]);
                }
            }
        }

        private int figureOf(int i, int p) {
            return values[i] / POWERS[p] % 10;
        }

        /** Keeps them in order, the least first. */
        private void addOption(int i, int option) {
            int[] row = options[i];
            int to = optionCount[i];
            if (to >= row.length) {
                return;
            }
            while (to > 0 && row[to - 1] > option) {
                row[to] = row[to - 1];
                to--;
            }
            row[to] = option;
            optionCount[i]++;
        }

        private boolean putOneRight() {
            for (int i = 0; i < many; i++) {
                if (isRoughBeside(i, NONE)) {
                    continue;
                }
                int best = leastOption(i, NONE, 0);
                if (best != NONE) {
                    found = 1;
                    keep(0, i, best);
                    return true;
                }
            }
            return false;
        }

        private boolean putTwoRight() {
            for (int one = 0; one < many; one++) {
                for (int other = one + 1; other < many; other++) {
                    if (!isRoughBeside(one, other) && putPairRight(one, other)) {
                        return true;
                    }
                }
            }
            return false;
        }

        private boolean putPairRight(int one, int other) {
            widen();
            for (int t = firstWith(one); t <= lastWith(one); t++) {
                if (factor(other - t) == 0) {
                    narrow(differences[t], factor(one - t));
                }
            }
            long from = values[one] + low;
            long to = values[one] + high;
            for (int o = 0; o < optionCount[one]; o++) {
                int option = options[one][o];
                if (option < from || option > to) {
                    continue;
                }
                int best = leastOption(other, one, option - values[one]);
                if (best != NONE) {
                    found = 2;
                    keep(0, one, option);
                    keep(1, other, best);
                    return true;
                }
            }
            return false;
        }

        private void keep(int j, int value, int rightly) {
            which[j] = value;
            should[j] = rightly;
        }

        /** The least correction of a value that makes all its differences small, if another one is changed so. */
        private int leastOption(int i, int changed, long change) {
            widen();
            for (int t = firstWith(i); t <= lastWith(i); t++) {
                long moved = changed == NONE ? 0 : factor(changed - t) * change;
                narrow(differences[t] + moved, factor(i - t));
            }
            for (int o = 0; o < optionCount[i]; o++) {
                int option = options[i][o];
                if (option >= values[i] + low) {
                    return option <= values[i] + high ? option : NONE;
                }
            }
            return NONE;
        }

        private int firstWith(int i) {
            return Math.max(0, i - order);
        }

        private int lastWith(int i) {
            return Math.min(i, many - order - 1);
        }

        private void widen() {
            low = -GREATEST_VALUE;
            high = GREATEST_VALUE;
        }

        /** Leaves the changes with which difference + times * change is small. */
        private void narrow(long difference, long times) {
            long count = Math.abs(times);
            if (count == 0) {
                return;
            }
            long now = times < 0 ? -difference : difference;
            low = Math.max(low, -Math.floorDiv(bound + now, count));
            high = Math.min(high, Math.floorDiv(bound - now, count));
        }
    }

    /** Plates, the copies printed from them, and the numbers that are known to be right. */
    private static final class Plates {
        private static final int ROWS = 40;
        private static final int MOST_CASTS = 100;
        private static final int MOST_PRINTINGS = 20;
        private static final int MOST_COPIES = 1000;
        private static final int MOST_TELLS = 60;

        private final int[] castRow = new int[MOST_CASTS];
        private final int[] castNumber = new int[MOST_CASTS];
        private final int[] lastCopy = new int[MOST_PRINTINGS];
        private final int[] castsAhead = new int[MOST_PRINTINGS];
        private final int[] tellDay = new int[MOST_TELLS];
        private final int[] tellRow = new int[MOST_TELLS];
        private final int[] tellNumber = new int[MOST_TELLS];
        private int casts;
        private int printings;
        private int tells;
        private int today;

        boolean hasRow(int row) {
            return row >= 0 && row < ROWS;
        }

        boolean isDay(int day) {
            return day >= 0 && day <= LAST_DAY;
        }

        boolean castsFull() {
            return casts >= MOST_CASTS;
        }

        boolean tellsFull() {
            return tells >= MOST_TELLS;
        }

        int rowStatus(int day, int row, int number, boolean full) {
            if (!hasRow(row)) {
                return NO_SUCH;
            }
            if (!isDay(day) || number < -BILLION || number > BILLION) {
                return BAD_NUMBER;
            }
            if (full) {
                return TOO_MANY;
            }
            return day < today ? DAY_GONE : FINE;
        }

        int printStatus(int day, int copies) {
            if (!isDay(day) || copies < 1 || copies > MOST_COPIES) {
                return BAD_NUMBER;
            }
            if (printings >= MOST_PRINTINGS) {
                return TOO_MANY;
            }
            return day < today ? DAY_GONE : FINE;
        }

        void addCast(int day, int row, int number) {
            if (castsFull()) {
                return;
            }
            today = day;
            castRow[casts] = row;
            castNumber[casts] = number;
            casts++;
        }

        void addTell(int day, int row, int number) {
            if (tellsFull()) {
                return;
            }
            today = day;
            tellDay[tells] = day;
            tellRow[tells] = row;
            tellNumber[tells] = number;
            tells++;
        }

        int addPrint(int day, int copies) {
            if (printings >= MOST_PRINTINGS) {
                return NONE;
            }
            today = day;
            lastCopy[printings] = copiesBefore(printings) + copies;
            castsAhead[printings] = casts;
            printings++;
            return lastCopy[printings - 1];
        }

        private int copiesBefore(int printing) {
            return printing > 0 ? lastCopy[printing - 1] : 0;
        }

        int printingOf(int copy) {
            for (int i = 0; i < printings; i++) {
                if (copy >= 1 && copy <= lastCopy[i]) {
                    return i;
                }
            }
            return NONE;
        }

        int saidIn(int printing, int row) {
            for (int i = castsAhead[printing] - 1; i >= 0; i--) {
                if (castRow[i] == row) {
                    return castNumber[i];
                }
            }
            return 0;
        }

        int wrongRows(int printing, int known) {
            int wrong = 0;
            for (int row = 0; row < ROWS; row++) {
                int told = latestTell(row, known);
                if (told != NONE && tellNumber[told] != saidIn(printing, row)) {
                    wrong++;
                }
            }
            return wrong;
        }

        /** Days never go back, so the last one told is the latest one. */
        private int latestTell(int row, int known) {
            for (int i = tells - 1; i >= 0; i--) {
                if (tellRow[i] == row && tellDay[i] <= known) {
                    return i;
                }
            }
            return NONE;
        }

        int badCopies(int known) {
            int bad = 0;
            for (int i = 0; i < printings; i++) {
                if (wrongRows(i, known) > 0) {
                    bad += lastCopy[i] - copiesBefore(i);
                }
            }
            return bad;
        }
    }

    /** Jobs, and how they are parted among engines. */
    private static final class Jobs {
        private static final int MOST_JOBS = 7;
        private static final int NEVER = 1000000;

        private final int[] axes = new int[MOST_JOBS];
        private final int[] wheels = new int[MOST_JOBS];
        private final int[] turns = new int[MOST_JOBS];
        private final int[] tried = new int[MOST_JOBS];
        private final int[] chosen = new int[MOST_JOBS];
        private final int[] loads = new int[MOST_ENGINES];
        private int count;
        private int least;
        private boolean isParted;

        boolean isFull() {
            return count >= MOST_JOBS;
        }

        boolean has(int job) {
            return job >= 0 && job < count;
        }

        int take(int newAxes, int newWheels, int newTurns) {
            if (isFull()) {
                return NONE;
            }
            axes[count] = newAxes;
            wheels[count] = newWheels;
            turns[count] = newTurns;
            count++;
            partAnew();
            return count - 1;
        }

        /** What was parted no longer holds: there is a job or an engine more. */
        void partAnew() {
            isParted = false;
        }

        void partAmong(Engine[] engines, int engineCount) {
            if (isParted) {
                return;
            }
            isParted = true;
            least = NEVER;
            Arrays.fill(loads, 0);
            assignFrom(this, engines, Math.min(engineCount, MOST_ENGINES), 0, 0);
        }

        boolean canBeParted() {
            return least != NEVER;
        }

        int leastGreatest() {
            return least;
        }

        int engineOf(int job) {
            return has(job) ? chosen[job] : NONE;
        }

        /** Tries the lesser engines first and takes only what is better, so of equal ones the first stays. */
        private static void assignFrom(Jobs all, Engine[] engines, int engineCount, int job, int greatest) {
            if (greatest >= all.least) {
                return;
            }
            if (!all.has(job)) {
                all.least = greatest;
                System.arraycopy(all.tried, 0, all.chosen, 0, MOST_JOBS);
                return;
            }
            for (int i = 0; i < engineCount; i++) {
                Engine engine = engines[i];
                if (engine != null && engine.axes >= all.axes[job] && engine.wheels >= all.wheels[job]) {
                    all.tried[job] = i;
                    all.loads[i] += all.turns[job];
                    assignFrom(all, engines, engineCount, job + 1, Math.max(greatest, all.loads[i]));
                    all.loads[i] -= all.turns[job];
                }
            }
        }
    }
}
