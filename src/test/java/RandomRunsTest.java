import java.util.Random;

/** Runs of calls drawn at random (always the same ones), held against PlainWorks: all promises. */
final class RandomRunsTest {
    private static final int[] EDGES = {-1, 0, 1, 4, 7, 13, 20, 40, 60, 61, Integer.MIN_VALUE, Integer.MAX_VALUE};
    private static final int CALLS = 500;

    private final Due due;
    private final Random random;
    private final String name;
    private WheelTables x;
    private PlainWorks plain;
    private int calls;

    private RandomRunsTest(Due due, String name, long seed) {
        this.due = due;
        this.name = name;
        this.random = new Random(seed);
    }

    public static void main(String[] args) {
        long more = args.length > 0 ? Long.parseLong(args[0]) : 0;
        int times = args.length > 1 ? Integer.parseInt(args[1]) : 1;
        Due due = new Due();
        for (int i = 0; i < 40 * times; i++) {
            new RandomRunsTest(due, "trays " + i, more + i).trays();
            new RandomRunsTest(due, "engines " + i, more + 1000 + i).engines();
            new RandomRunsTest(due, "explain " + i, more + 2000 + i).explanations();
            new RandomRunsTest(due, "far axes " + i, more + 2500 + i).explanationsOfFarAxes();
            new RandomRunsTest(due, "finer " + i, more + 3000 + i).finerTables();
            new RandomRunsTest(due, "mill " + i, more + 4000 + i).mill();
            new RandomRunsTest(due, "turns " + i, more + 5000 + i).turns();
            new RandomRunsTest(due, "plates " + i, more + 7000 + i).plates();
            new RandomRunsTest(due, "jobs " + i, more + 8000 + i).jobs();
            new RandomRunsTest(due, "all " + i, more + 9000 + i).all();
        }
        for (int i = 0; i < 8 * times; i++) {
            new RandomRunsTest(due, "long sheets " + i, more + 2800 + i).explanationsOfLongSheets();
            new RandomRunsTest(due, "errata " + i, more + 6000 + i).errata();
        }
        due.end();
    }

    private void begin() {
        x = new WheelTables();
        plain = new PlainWorks();
        calls = 0;
    }

    private boolean goesOn() {
        return calls < CALLS;
    }

    private void same(String call, long got, long want) {
        calls++;
        due.is(name + ", call " + calls + ": " + call, got, want);
        due.is(name + ", call " + calls + ": status() behind " + call, x.status(), plain.status);
    }

    private void same(String call, boolean got, long want) {
        same(call, got ? 1L : -1L, want);
    }

    private boolean chance(int percent) {
        return random.nextInt(100) < percent;
    }

    private int from(int least, int most) {
        return least + random.nextInt(most - least + 1);
    }

    /** Mostly a number from least to most; at times one at the edge, or far away. */
    private int about(int least, int most) {
        if (chance(94)) {
            return from(least, most);
        }
        if (chance(50)) {
            return chance(50) ? least - 1 : most + 1;
        }
        return EDGES[random.nextInt(EDGES.length)];
    }

    private static String named(String call, long... args) {
        StringBuilder s = new StringBuilder(call).append('(');
        for (int i = 0; i < args.length; i++) {
            s.append(i == 0 ? "" : ", ").append(args[i]);
        }
        return s.append(')').toString();
    }

    // single calls

    private void tray(int tray, int sort, int many) {
        same(named("tray", tray, sort, many), x.tray(tray, sort, many), plain.tray(tray, sort, many));
    }

    private void write(int tray, int place, long v) {
        same(named("write", tray, place, v), x.write(tray, place, v), plain.write(tray, place, v));
    }

    private void read(int tray, int place) {
        same(named("read", tray, place), x.read(tray, place), plain.read(tray, place));
    }

    private void pour(int tray, int i, int to, int j, int many) {
        same(named("pour", tray, i, to, j, many), x.pour(tray, i, to, j, many), plain.pour(tray, i, to, j, many));
    }

    private void engine(int axes, int wheels, int tray) {
        same(named("engine", axes, wheels, tray), x.engine(axes, wheels, tray), plain.engine(axes, wheels, tray));
    }

    private void numberAndFigure(int engine) {
        int axis = about(0, 6);
        int wheel = about(0, 11);
        same(named("number", engine, axis), x.number(engine, axis), plain.number(engine, axis));
        same(named("figure", engine, axis, wheel), x.figure(engine, axis, wheel), plain.figure(engine, axis, wheel));
    }

    private void put(int engine, int axis, int wheel, int figure) {
        same(named("put", engine, axis, wheel, figure), x.put(engine, axis, wheel, figure),
            plain.put(engine, axis, wheel, figure));
    }

    private void set(int engine, int tray, int n) {
        same(named("set", engine, tray, n), x.set(engine, tray, n), plain.set(engine, tray, n));
    }

    private void mishap(int engine, int turn, int axis, int wheel, int kind) {
        same(named("mishap", engine, turn, axis, wheel, kind), x.mishap(engine, turn, axis, wheel, kind),
            plain.mishap(engine, turn, axis, wheel, kind));
    }

    private void turn(int engine, int turns) {
        same(named("turn", engine, turns), x.turn(engine, turns), plain.turn(engine, turns));
    }

    private void sheet(int engine, int tray, int r) {
        same(named("sheet", engine, tray, r), x.sheet(engine, tray, r), plain.sheet(engine, tray, r));
    }

    private void explain(int engine, int tray, int r) {
        same(named("explain", engine, tray, r), x.explain(engine, tray, r), plain.explain(engine, tray, r));
        because();
    }

    private void because() {
        for (int what = chance(10) ? -1 : 0; what < 4; what++) {
            same(named("because", what), x.because(what), plain.because(what));
        }
    }

    private void finer(int tray, int k, int m, int r) {
        same(named("finer", tray, k, m, r), x.finer(tray, k, m, r), plain.finer(tray, k, m, r));
    }

    private void feed(String text) {
        for (int[] w : Tape.feeds(text)) {
            same("feed of " + text, x.feed(w[0], w[1], w[2], w[3], w[4]), plain.feed(w));
        }
    }

    private void cards(String text, int n) {
        feed(text);
        same("cards(" + n + ") of '" + text + "'", x.cards(n), plain.cards(n));
        for (int what = -1; what <= 2; what++) {
            same(named("fault", what) + " of '" + text + "'", x.fault(what), plain.fault(what));
        }
    }

    private void run() {
        same("run()", x.run(), plain.run());
        for (int what = 0; what < 4; what++) {
            same(named("ran", what), x.ran(what), plain.ran(what));
        }
        for (int i = 0; i < 5; i++) {
            int k = about(0, 4);
            int place = about(0, 19);
            same(named("printed", k), x.printed(k), plain.printed(k));
            same(named("place", place), x.place(place), plain.place(place));
        }
    }

    private void errata(int tray, int n, int k, int b) {
        same(named("errata", tray, n, k, b), x.errata(tray, n, k, b), plain.errata(tray, n, k, b));
        for (int j = 0; j <= 2; j++) {
            for (int what = 0; what <= 1; what++) {
                same(named("right", j, what), x.right(j, what), plain.right(j, what));
            }
        }
    }

    private void partAndPartOf() {
        same("part()", x.part(), plain.part());
        for (int job = -1; job <= 7; job++) {
            same(named("partOf", job), x.partOf(job), plain.partOf(job));
        }
    }

    // whole runs

    private void trays() {
        begin();
        while (goesOn()) {
            int tray = about(0, 3);
            if (chance(10)) {
                tray(tray, chance(90) ? from(1, 2) : about(0, 3), chance(80) ? from(0, 8) : about(0, 60));
            } else if (chance(40)) {
                write(tray, about(0, 8), chance(50) ? random.nextLong() : from(-300, 300));
            } else if (chance(60)) {
                read(tray, about(0, 8));
            } else {
                pour(tray, about(0, 5), about(0, 3), about(0, 5), about(0, 4));
            }
        }
    }

    private void makeEngine(int axes, int wheels, boolean small) {
        tray(0, 0, about(Math.min(wheels, 59), 12));
        for (int i = 0; i < wheels; i++) {
            write(0, i, small ? from(2, 4) : about(2, 12));
        }
        engine(axes, wheels, about(0, 0));
    }

    private void fillTray(int tray, int sort, int many, int size) {
        tray(tray, sort, many);
        for (int i = 0; i < many; i++) {
            write(tray, i, from(-size, size));
        }
    }

    private void engines() {
        begin();
        for (int i = 0; i < 3; i++) {
            makeEngine(about(2, 7), from(1, 12), chance(30));
        }
        while (goesOn()) {
            int engine = about(0, 2);
            switch (from(0, 9)) {
                case 0:
                    fillTray(1, from(0, 3), from(1, 7), chance(50) ? 1000 : 1000000000);
                    set(engine, chance(95) ? 1 : about(0, 3), about(1, 4));
                    break;
                case 1:
                case 2:
                    mishap(engine, chance(80) ? from(1, 20) : about(1, 1000), about(0, 2), about(0, 3), about(0, 2));
                    break;
                case 3:
                    if (chance(20)) {
                        same(named("mend", engine), x.mend(engine), plain.mend(engine));
                    }
                    break;
                case 4:
                    turn(engine, chance(90) ? from(1, 5) : about(1, 200));
                    break;
                case 5:
                    put(engine, about(0, 4), about(0, 6), about(0, 5));
                    break;
                case 6:
                    tray(2, about(0, 3), about(1, 12));
                    sheet(engine, chance(95) ? 2 : about(0, 3), about(1, 8));
                    read(2, about(0, 7));
                    break;
                default:
                    numberAndFigure(engine);
                    break;
            }
        }
    }

    private void explanations() {
        begin();
        int axes = from(2, 7);
        int wheels = from(1, 6);
        boolean small = chance(60);
        tray(0, 0, wheels);
        for (int i = 0; i < wheels; i++) {
            write(0, i, small ? from(2, 4) : from(2, 12));
        }
        engine(axes, wheels, 0);
        while (goesOn()) {
            fillTray(1, 3, axes, chance(50) ? 100 : 1000000);
            int n = from(1, axes);
            int rows = from(1, 10);
            int ahead = from(0, 3);
            same("mend(0)", x.mend(0), plain.mend(0));
            set(0, 1, n);
            for (int i = chance(80) ? 1 : from(0, 2); i > 0; i--) {
                mishap(0, from(1, rows) + ahead, about(0, axes - 2), about(0, wheels - 1), about(0, 2));
            }
            tray(2, from(0, 3), chance(90) ? rows : from(0, 60));
            if (ahead > 0) {
                turn(0, ahead);
            }
            sheet(0, 2, rows);
            if (chance(20)) {
                write(2, from(0, rows - 1), from(0, 9));
            }
            set(0, 1, n);
            explain(0, 2, rows);
            explain(about(0, 0), about(2, 2), about(1, 10));
            same("mend(0)", x.mend(0), plain.mend(0));
            if (ahead > 0) {
                turn(0, ahead);
            }
            explain(0, 2, rows);
        }
    }

    /** Mishaps of axes that come to axis 0 only turns later, and all axes move. */
    private void explanationsOfFarAxes() {
        begin();
        int axes = from(5, 7);
        int wheels = from(2, 5);
        tray(0, 0, wheels);
        for (int i = 0; i < wheels; i++) {
            write(0, i, from(4, 12));
        }
        engine(axes, wheels, 0);
        tray(2, from(1, 3), 9);
        while (goesOn()) {
            fillTray(1, 3, axes, 100000000);
            same("mend(0)", x.mend(0), plain.mend(0));
            set(0, 1, axes);
            mishap(0, from(1, 4), from(1, axes - 2), from(0, wheels - 1), from(0, 2));
            sheet(0, 2, 9);
            set(0, 1, axes);
            explain(0, 2, 9);
        }
    }

    /** Up to sixty rows of engines with up to twelve wheels, far along in their turns, and radixes of all kinds. */
    private void explanationsOfLongSheets() {
        begin();
        int axes = from(2, 7);
        int wheels = from(7, 12);
        tray(0, 0, wheels);
        for (int i = 0; i < wheels; i++) {
            write(0, i, from(2, 12));
        }
        engine(axes, wheels, 0);
        while (goesOn()) {
            int rows = chance(30) ? 60 : from(11, 60);
            int ahead = chance(30) ? 1000 - rows : from(1, 200);
            int late = chance(50) ? rows : from(1, rows);
            fillTray(1, 3, axes, chance(50) ? 1000 : 1000000000);
            same("mend(0)", x.mend(0), plain.mend(0));
            goTo(ahead, axes);
            mishap(0, ahead + late, from(0, axes - 2), from(0, wheels - 1), from(0, 2));
            tray(2, from(0, 3), rows);
            sheet(0, 2, rows);
            goTo(ahead, axes);
            explain(0, 2, rows);
        }
    }

    private void goTo(int turns, int n) {
        set(0, 1, n);
        for (int left = turns; left > 0; left -= 200) {
            turn(0, Math.min(left, 200));
        }
    }

    private void finerTables() {
        begin();
        while (goesOn()) {
            int k = from(1, 4);
            fillTray(1, 3, k + 1, chance(30) ? 10000 : from(1, 200));
            for (int i = 0; i < 4; i++) {
                finer(chance(97) ? 1 : about(0, 3), chance(90) ? k : about(1, 4), about(2, 20), about(1, 60));
            }
        }
    }

    private String place() {
        return Integer.toString(chance(98) ? from(0, 5) : from(0, 21));
    }

    private String card() {
        String[] words = {"add", "sub", "mul", "div", "put", "put", "print", "back", "on"};
        String word = words[random.nextInt(words.length)];
        StringBuilder s = new StringBuilder(word).append(' ');
        switch (word) {
            case "put":
                s.append(place()).append(chance(50) ? " -" : " ").append(chance(60) ? from(0, 99) : whole());
                break;
            case "print":
                s.append(place());
                break;
            case "back":
            case "on":
                s.append(chance(97) ? from(1, 2) : from(0, 42));
                s.append(chance(70) ? (chance(50) ? " if up" : " if down") : "");
                break;
            default:
                s.append(place()).append(' ').append(place()).append(' ').append(place());
                s.append(word.equals("div") ? " " + place() : "");
                break;
        }
        return s.append(chance(50) ? ";" : " ;\n").toString();
    }

    private String whole() {
        StringBuilder s = new StringBuilder();
        for (int i = from(1, chance(98) ? 12 : 14); i > 0; i--) {
            s.append(chance(30) ? 9 : from(0, 9));
        }
        return s.toString();
    }

    private String text() {
        StringBuilder s = new StringBuilder();
        for (int i = 0; i < 6; i++) {
            s.append(chance(70) ? "put " + i + " " + (chance(70) ? from(0, 99) : whole()) + ";" : "");
        }
        for (int i = chance(95) ? from(0, 14) : 50; i > 0 && s.length() < 470; i--) {
            s.append(card());
        }
        if (chance(15) && s.length() > 0) {
            String strange = "x;- 0A\t\n" + (char) 233 + (char) 0 + "ifupon";
            s.setCharAt(random.nextInt(s.length()), strange.charAt(random.nextInt(strange.length())));
        }
        if (chance(5) && s.length() > 0) {
            s.deleteCharAt(random.nextInt(s.length()));
        }
        return s.toString();
    }

    private void mill() {
        for (int i = 0; i < 10; i++) {
            begin();
            while (goesOn()) {
                String text = text();
                cards(text, chance(95) ? text.length() : from(-1, text.length() + 30));
                if (chance(95)) {
                    run();
                } else {
                    feed(text);
                }
            }
        }
    }

    private void turns() {
        begin();
        while (goesOn()) {
            long number = chance(95) ? Long.parseLong("0" + whole()) : random.nextLong();
            int k = about(0, 12);
            same(named("turns", number), x.turns(number), plain.turns(number));
            same(named("turnsAt", number, k), x.turnsAt(number, k), plain.turnsAt(number, k));
        }
    }

    private long spoiled(long value) {
        char[] figures = String.format("%08d", value).toCharArray();
        int p = chance(60) ? from(5, 7) : from(0, 7);
        if (chance(50)) {
            figures[p] = (char) ('0' + from(0, 9));
        } else {
            int q = p == 0 ? 1 : p - 1;
            char kept = figures[p];
            figures[p] = figures[q];
            figures[q] = kept;
        }
        return Long.parseLong(new String(figures));
    }

    private void errata() {
        begin();
        while (goesOn()) {
            int n = chance(90) ? from(3, 7) : from(8, 20);
            int k = from(1, Math.min(4, n - 1));
            int b = chance(30) ? 0 : chance(50) ? from(0, 5) : about(0, 1000);
            long[] c = {from(0, 99999), from(0, 999), from(0, 99), from(0, 9)};
            tray(0, 2, n);
            for (int i = 0; i < n; i++) {
                long v = c[0] + i * (c[1] + i * (c[2] + i * (k > 3 ? c[3] : 0)));
                write(0, i, v + (b > 0 ? from(0, 1) : 0));
            }
            for (int i = from(0, n > 9 ? 2 : 3); i > 0; i--) {
                int at = from(0, n - 1);
                write(0, at, spoiled(x.read(0, at)));
            }
            errata(chance(98) ? 0 : about(0, 3), n > 9 ? n : about(n, n), chance(95) ? k : about(1, 4), b);
            if (chance(5)) {
                write(0, 0, chance(50) ? -1 : 100000000);
            }
        }
    }

    private void plates() {
        begin();
        int day = 0;
        while (goesOn()) {
            day = Math.min(9999, day + (chance(20) ? from(0, 3) : 0));
            int then = chance(95) ? day : about(0, 9999);
            int row = about(0, 5);
            int number = chance(90) ? from(0, 2) : about(-1000000000, 1000000000);
            int copy = about(1, 3000);
            int known = chance(80) ? from(0, day) : about(0, 9999);
            switch (from(0, 6)) {
                case 0:
                    same(named("cast", then, row, number), x.cast(then, row, number), plain.cast(then, row, number));
                    break;
                case 1:
                    same(named("tell", then, row, number), x.tell(then, row, number), plain.tell(then, row, number));
                    break;
                case 2:
                    int copies = chance(80) ? from(1, 100) : about(1, 1000);
                    same(named("print", then, copies), x.print(then, copies), plain.print(then, copies));
                    break;
                case 3:
                    same(named("wrong", copy, known), x.wrong(copy, known), plain.wrong(copy, known));
                    break;
                case 4:
                    same(named("bad", known), x.bad(known), plain.bad(known));
                    break;
                default:
                    same(named("says", copy, row), x.says(copy, row), plain.says(copy, row));
                    break;
            }
            day = Math.max(day, plain.today);
        }
    }

    private void jobs() {
        begin();
        for (int i = 0; i < 12; i++) {
            if (chance(40)) {
                makeEngine(from(2, 7), from(1, 12), true);
            }
            int axes = chance(80) ? from(2, 4) : about(2, 7);
            int wheels = chance(80) ? from(1, 4) : about(1, 12);
            int turns = chance(60) ? from(1, 9) : about(1, 1000);
            same(named("job", axes, wheels, turns), x.job(axes, wheels, turns), plain.job(axes, wheels, turns));
            partAndPartOf();
        }
    }

    /** All kinds of calls on one object: that none spoils what another one keeps. */
    private void all() {
        begin();
        makeEngine(from(2, 7), from(1, 6), true);
        while (goesOn()) {
            switch (from(0, 9)) {
                case 0:
                    fillTray(1, 3, 5, 100);
                    break;
                case 1:
                    set(about(0, 1), about(0, 3), about(1, 5));
                    break;
                case 2:
                    mishap(about(0, 1), about(1, 20), about(0, 2), about(0, 3), about(0, 2));
                    break;
                case 3:
                    tray(2, from(0, 3), from(0, 9));
                    sheet(0, about(0, 3), about(1, 9));
                    break;
                case 4:
                    explain(0, about(0, 3), about(1, 5));
                    break;
                case 5:
                    finer(about(0, 3), about(1, 4), about(2, 20), about(1, 60));
                    break;
                case 6:
                    cards(card(), from(0, 20));
                    run();
                    break;
                case 7:
                    errata(about(0, 3), about(3, 5), about(1, 4), about(0, 1000));
                    break;
                case 8:
                    because();
                    read(about(0, 3), about(0, 9));
                    numberAndFigure(0);
                    break;
                default:
                    engine(about(2, 7), about(1, 6), 0);
                    same("job(2, 1, 5)", x.job(2, 1, 5), plain.job(2, 1, 5));
                    partAndPartOf();
                    break;
            }
        }
    }
}
