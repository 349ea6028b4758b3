import java.math.BigInteger;
import java.nio.charset.StandardCharsets;
import java.util.ArrayList;
import java.util.Arrays;
import java.util.List;
import java.util.regex.Matcher;
import java.util.regex.Pattern;

/**
 * The document once more, written the slow and plain way with all of the Java library: every choice is tried, every
 * number is exact. RandomRunsTest holds the program against it.
 */
final class PlainWorks {
    static final class Machine {
        int[] radix;
        int[][] figures;
        int turn;
        List<int[]> mishaps = new ArrayList<>();

        Machine bareCopy() {
            Machine copy = new Machine();
            copy.radix = radix;
            copy.figures = new int[figures.length][];
            for (int i = 0; i < figures.length; i++) {
                copy.figures[i] = figures[i].clone();
            }
            copy.turn = turn;
            return copy;
        }

        long number(int axis) {
            long sum = 0;
            long weight = 1;
            for (int i = 0; i < radix.length; i++) {
                sum += figures[axis][i] * weight;
                weight *= radix[i];
            }
            return sum;
        }

        long all() {
            long product = 1;
            for (int r : radix) {
                product *= r;
            }
            return product;
        }

        boolean happens(int axis, int wheel, int kind) {
            for (int[] m : mishaps) {
                if (m[0] == turn && m[1] == axis && m[2] == wheel && m[3] == kind) {
                    return true;
                }
            }
            return false;
        }

        void add(int from, int to) {
            boolean[] warned = new boolean[radix.length];
            for (int i = 0; i < radix.length; i++) {
                int steps = happens(to, i, 2) ? 0 : figures[from][i];
                for (int s = 0; s < steps; s++) {
                    figures[to][i]++;
                    if (figures[to][i] == radix[i]) {
                        figures[to][i] = 0;
                        warned[i] = true;
                    }
                }
            }
            for (int i = 0; i + 1 < radix.length; i++) {
                if (warned[i] && !happens(to, i + 1, 1)) {
                    figures[to][i + 1]++;
                    if (figures[to][i + 1] == radix[i + 1]) {
                        figures[to][i + 1] = 0;
                        warned[i + 1] = true;
                    }
                }
            }
        }

        void turnOnce() {
            turn++;
            int[][] order = {{1, 0}, {3, 2}, {5, 4}, {2, 1}, {4, 3}, {6, 5}};
            for (int[] pair : order) {
                if (pair[0] < figures.length) {
                    add(pair[0], pair[1]);
                }
            }
            for (int[] m : mishaps) {
                if (m[0] == turn && m[3] == 0) {
                    int radixThere = radix[m[2]];
                    figures[m[1]][m[2]] = (figures[m[1]][m[2]] + radixThere - 1) % radixThere;
                }
            }
        }
    }

    /** A fraction with a denominator above 0. */
    record Fraction(BigInteger up, BigInteger down) {
        static Fraction of(long n) {
            return new Fraction(BigInteger.valueOf(n), BigInteger.ONE);
        }

        Fraction plus(Fraction o) {
            return new Fraction(up.multiply(o.down).add(o.up.multiply(down)), down.multiply(o.down)).least();
        }

        Fraction times(Fraction o) {
            return new Fraction(up.multiply(o.up), down.multiply(o.down)).least();
        }

        Fraction least() {
            BigInteger g = up.gcd(down).max(BigInteger.ONE);
            if (down.signum() < 0) {
                g = g.negate();
            }
            return new Fraction(up.divide(g), down.divide(g));
        }

        BigInteger rounded() {
            BigInteger two = BigInteger.TWO;
            return floor(up.multiply(two).add(down), down.multiply(two));
        }

        static BigInteger floor(BigInteger a, BigInteger b) {
            BigInteger[] parts = a.divideAndRemainder(b);
            return parts[1].signum() < 0 ? parts[0].subtract(BigInteger.ONE) : parts[0];
        }
    }

    /** Lagrange's form at x = a by b. */
    static Fraction polynomial(long[] values, int n, long a, long b) {
        Fraction sum = Fraction.of(0);
        Fraction x = new Fraction(BigInteger.valueOf(a), BigInteger.valueOf(b)).least();
        for (int i = 0; i < n; i++) {
            Fraction term = Fraction.of(values[i]);
            for (int j = 0; j < n; j++) {
                if (j != i) {
                    Fraction by = new Fraction(BigInteger.ONE, BigInteger.valueOf(i - j)).least();
                    term = term.times(x.plus(Fraction.of(-j))).times(by);
                }
            }
            sum = sum.plus(term);
        }
        return sum;
    }

    /** The difference of an order of the table at 0, 1 by m, .., from the value at that step on. */
    static Fraction difference(long[] values, int n, long m, int order, int from) {
        Fraction sum = Fraction.of(0);
        long choices = 1;
        for (int s = order; s >= 0; s--) {
            long sign = (order - s) % 2 == 0 ? 1 : -1;
            sum = sum.plus(polynomial(values, n, from + s, m).times(Fraction.of(sign * choices)));
            choices = choices * s / (order - s + 1);
        }
        return sum;
    }

    int status;
    final int[] sorts = {-1, -1, -1, -1};
    final long[][] trays = new long[4][];
    final List<Machine> machines = new ArrayList<>();
    int[] because;
    byte[] tape = new byte[0];
    List<Card> text;
    int fault = -1;
    int faultPlace = -1;
    boolean hasRun;
    List<Long> prints = new ArrayList<>();
    long[] places = new long[20];
    int[] account = new int[4];
    List<int[]> findings = new ArrayList<>();
    int today;
    int[] plate = new int[40];
    int casts;
    int printings;
    List<int[]> copies = new ArrayList<>();
    List<int[]> tells = new ArrayList<>();
    List<int[]> jobs = new ArrayList<>();

    private long no(int code) {
        status = code;
        return -1;
    }

    private long yes(long answer) {
        status = 0;
        return answer;
    }

    private static boolean out(long v, long least, long most) {
        return v < least || v > most;
    }

    private static long cut(long v, int sort) {
        int bits = 8 << sort;
        BigInteger all = BigInteger.ONE.shiftLeft(bits);
        BigInteger r = BigInteger.valueOf(v).mod(all);
        return r.testBit(bits - 1) ? r.subtract(all).longValueExact() : r.longValueExact();
    }

    // trays; a false answer is -1 here, a true one 1

    long tray(int tray, int sort, int many) {
        if (out(tray, 0, 3) || out(sort, 0, 3)) {
            return no(1);
        }
        if (many > 60) {
            return no(5);
        }
        if (many < 0) {
            return no(6);
        }
        sorts[tray] = sort;
        trays[tray] = new long[many];
        return yes(1);
    }

    long write(int tray, int place, long v) {
        if (out(tray, 0, 3)) {
            return no(1);
        }
        if (trays[tray] == null) {
            return no(3);
        }
        if (out(place, 0, trays[tray].length - 1)) {
            return no(4);
        }
        trays[tray][place] = cut(v, sorts[tray]);
        return yes(1);
    }

    long read(int tray, int place) {
        if (out(tray, 0, 3)) {
            return no(1);
        }
        if (trays[tray] == null) {
            return no(3);
        }
        return out(place, 0, trays[tray].length - 1) ? no(4) : yes(trays[tray][place]);
    }

    long pour(int tray, int i, int to, int j, int many) {
        if (out(tray, 0, 3) || out(to, 0, 3)) {
            return no(1);
        }
        if (trays[tray] == null || trays[to] == null) {
            return no(3);
        }
        if (sorts[tray] != sorts[to]) {
            return no(11);
        }
        if (many < 0) {
            return no(6);
        }
        if (i < 0 || j < 0 || (long) i + many > trays[tray].length || (long) j + many > trays[to].length) {
            return no(4);
        }
        long[] asTheyWere = trays[tray].clone();
        for (int k = 0; k < many; k++) {
            trays[to][j + k] = asTheyWere[i + k];
        }
        return yes(1);
    }

    // engines

    long engine(int axes, int wheels, int tray) {
        if (out(tray, 0, 3)) {
            return no(1);
        }
        if (trays[tray] == null) {
            return no(3);
        }
        if (out(axes, 2, 7) || out(wheels, 1, 12)) {
            return no(5);
        }
        if (trays[tray].length < wheels) {
            return no(4);
        }
        Machine made = new Machine();
        made.radix = new int[wheels];
        for (int i = 0; i < wheels; i++) {
            if (out(trays[tray][i], 2, 12)) {
                return no(5);
            }
            made.radix[i] = (int) trays[tray][i];
        }
        if (machines.size() == 4) {
            return no(7);
        }
        made.figures = new int[axes][wheels];
        machines.add(made);
        return yes(machines.size() - 1);
    }

    private Machine machine(int engine) {
        return out(engine, 0, machines.size() - 1) ? null : machines.get(engine);
    }

    private boolean noWheel(int engine, int axis, int wheel) {
        Machine m = machine(engine);
        return m == null || out(axis, 0, m.figures.length - 1) || out(wheel, 0, m.radix.length - 1);
    }

    long figure(int engine, int axis, int wheel) {
        return noWheel(engine, axis, wheel) ? no(2) : yes(machine(engine).figures[axis][wheel]);
    }

    long put(int engine, int axis, int wheel, int figure) {
        if (noWheel(engine, axis, wheel)) {
            return no(2);
        }
        if (out(figure, 0, machine(engine).radix[wheel] - 1)) {
            return no(5);
        }
        machine(engine).figures[axis][wheel] = figure;
        return yes(1);
    }

    long number(int engine, int axis) {
        return noWheel(engine, axis, 0) ? no(2) : yes(machine(engine).number(axis));
    }

    private int engineTray(int engine, int tray, int many, int most) {
        if (out(tray, 0, 3)) {
            return 1;
        }
        if (machine(engine) == null) {
            return 2;
        }
        if (trays[tray] == null) {
            return 3;
        }
        if (out(many, 1, most)) {
            return 5;
        }
        return trays[tray].length < many ? 4 : 0;
    }

    long set(int engine, int tray, int n) {
        Machine m = machine(engine);
        int code = engineTray(engine, tray, n, m == null ? 0 : m.figures.length);
        if (code != 0) {
            return no(code);
        }
        for (int i = 0; i < n; i++) {
            if (out(trays[tray][i], -1000000000L, 1000000000L)) {
                return no(5);
            }
        }
        for (int axis = 0; axis < m.figures.length; axis++) {
            Fraction exact = axis < n ? difference(trays[tray], n, 1, axis, -(axis / 2)) : Fraction.of(0);
            long rest = exact.rounded().mod(BigInteger.valueOf(m.all())).longValueExact();
            for (int i = 0; i < m.radix.length; i++) {
                m.figures[axis][i] = (int) (rest % m.radix[i]);
                rest /= m.radix[i];
            }
        }
        m.turn = 0;
        return yes(1);
    }

    long mishap(int engine, int turn, int axis, int wheel, int kind) {
        if (noWheel(engine, axis, wheel) || axis == machine(engine).figures.length - 1) {
            return no(2);
        }
        if (out(turn, 1, 1000) || out(kind, 0, 2)) {
            return no(5);
        }
        if (machine(engine).mishaps.size() == 20) {
            return no(7);
        }
        machine(engine).mishaps.add(new int[] {turn, axis, wheel, kind});
        return yes(1);
    }

    long mend(int engine) {
        if (machine(engine) == null) {
            return no(2);
        }
        machine(engine).mishaps.clear();
        return yes(1);
    }

    long turn(int engine, int turns) {
        Machine m = machine(engine);
        if (m == null) {
            return no(2);
        }
        if (out(turns, 1, 200)) {
            return no(5);
        }
        if (m.turn + turns > 1000) {
            return no(9);
        }
        for (int i = 0; i < turns; i++) {
            m.turnOnce();
        }
        return yes(m.turn);
    }

    long sheet(int engine, int tray, int r) {
        int code = engineTray(engine, tray, r, 60);
        if (code != 0) {
            return no(code);
        }
        Machine m = machine(engine);
        if (m.turn + r > 1000) {
            return no(9);
        }
        for (int i = 0; i < r; i++) {
            m.turnOnce();
            trays[tray][i] = cut(m.number(0), sorts[tray]);
        }
        return yes(1);
    }

    private boolean comesOut(Machine m, int tray, int r, int[] mishap) {
        Machine trial = m.bareCopy();
        trial.turn = 0;
        if (mishap != null) {
            trial.mishaps.add(mishap);
        }
        for (int i = 0; i < r; i++) {
            trial.turnOnce();
            if (cut(trial.number(0), sorts[tray]) != trays[tray][i]) {
                return false;
            }
        }
        return true;
    }

    long explain(int engine, int tray, int r) {
        int code = engineTray(engine, tray, r, 60);
        if (code != 0) {
            return no(code);
        }
        Machine m = machine(engine);
        if (comesOut(m, tray, r, null)) {
            because = null;
            return yes(0);
        }
        for (int t = 1; t <= r; t++) {
            for (int axis = 0; axis < m.figures.length - 1; axis++) {
                for (int wheel = 0; wheel < m.radix.length; wheel++) {
                    for (int kind = 0; kind < 3; kind++) {
                        int[] mishap = {t, axis, wheel, kind};
                        if (comesOut(m, tray, r, mishap)) {
                            because = mishap;
                            return yes(1);
                        }
                    }
                }
            }
        }
        return no(8);
    }

    long because(int what) {
        if (out(what, 0, 3)) {
            return no(5);
        }
        return because == null ? no(8) : yes(because[what]);
    }

    long finer(int tray, int k, int m, int r) {
        if (out(tray, 0, 3)) {
            return no(1);
        }
        if (trays[tray] == null) {
            return no(3);
        }
        if (out(k, 1, 4) || out(m, 2, 20) || out(r, 1, 60)) {
            return no(5);
        }
        if (trays[tray].length < k + 1) {
            return no(4);
        }
        for (int i = 0; i <= k; i++) {
            if (out(trays[tray][i], -10000, 10000)) {
                return no(5);
            }
        }
        for (int d = 0; d <= 6; d++) {
            if (fineEnough(trays[tray], k, m, r, d)) {
                return yes(d);
            }
        }
        return no(8);
    }

    private static boolean fineEnough(long[] values, int k, int m, int r, int d) {
        BigInteger unit = BigInteger.TEN.pow(d);
        BigInteger[] axis = new BigInteger[k + 1];
        for (int j = 0; j <= k; j++) {
            axis[j] = difference(values, k + 1, m, j, -(j / 2)).times(new Fraction(unit, BigInteger.ONE)).rounded();
        }
        for (int i = 0; i < r; i++) {
            BigInteger told = new Fraction(axis[0], unit).rounded();
            if (!told.equals(polynomial(values, k + 1, i, m).rounded())) {
                return false;
            }
            for (int j = 1; j <= k; j += 2) {
                axis[j - 1] = axis[j - 1].add(axis[j]);
            }
            for (int j = 2; j <= k; j += 2) {
                axis[j - 1] = axis[j - 1].add(axis[j]);
            }
        }
        return true;
    }

    // the mill

    record Token(String text, int start) {
    }

    record Card(String word, int[] numbers, long whole, String when, int leadStart) {
    }

    static final class Faulty extends Exception {
        private static final long serialVersionUID = 1L;
        final int kind;
        final int start;

        Faulty(int kind, int start) {
            this.kind = kind;
            this.start = start;
        }
    }

    long feed(int... ints) {
        if (tape.length + 20 > 500) {
            return -1;
        }
        int at = tape.length;
        tape = Arrays.copyOf(tape, at + 20);
        for (int i : ints) {
            for (byte b : java.nio.ByteBuffer.allocate(4).putInt(i).array()) {
                tape[at++] = b;
            }
        }
        return tape.length;
    }

    long cards(int n) {
        if (out(n, 0, tape.length)) {
            return no(5);
        }
        String all = new String(tape, 0, n, StandardCharsets.ISO_8859_1);
        tape = new byte[0];
        try {
            text = parse(tokens(all), n);
            fault = 0;
            faultPlace = -1;
            return yes(text.size());
        } catch (Faulty f) {
            fault = f.kind;
            faultPlace = f.start;
            return no(10);
        }
    }

    private static List<Token> tokens(String all) {
        Matcher m = Pattern.compile("[a-z]+|[0-9]+|[;-]|[ \\n]+|(?s:.)").matcher(all);
        List<Token> list = new ArrayList<>();
        while (m.find()) {
            if (!m.group().matches("[ \\n]+")) {
                list.add(new Token(m.group(), m.start()));
            }
        }
        return list;
    }

    /** What each card has behind its word: P a place, W a whole, N a number to go, I perhaps a when. */
    private static String form(String word) {
        switch (word) {
            case "put":
                return "PW";
            case "add":
            case "sub":
            case "mul":
                return "PPP";
            case "div":
                return "PPPP";
            case "print":
                return "P";
            case "back":
            case "on":
                return "NI";
            default:
                return null;
        }
    }

    private static boolean isToken(String text) {
        return text.matches("[a-z]+|[0-9]{1,12}|;|-");
    }

    private static Token at(List<Token> tokens, int i, int n) throws Faulty {
        if (i >= tokens.size()) {
            return new Token("", n);
        }
        if (!isToken(tokens.get(i).text)) {
            throw new Faulty(1, tokens.get(i).start);
        }
        return tokens.get(i);
    }

    private static List<Card> parse(List<Token> tokens, int n) throws Faulty {
        List<Card> deck = new ArrayList<>();
        int i = 0;
        while (i < tokens.size()) {
            Token word = at(tokens, i++, n);
            String form = form(word.text);
            if (form == null) {
                throw new Faulty(2, word.start);
            }
            if (deck.size() == 40) {
                throw new Faulty(3, word.start);
            }
            int[] numbers = new int[4];
            int filled = 0;
            long whole = 0;
            String when = "";
            int leadStart = -1;
            for (char part : form.toCharArray()) {
                Token t = at(tokens, i, n);
                if (part == 'I') {
                    if (t.text.equals("if")) {
                        Token w = at(tokens, i + 1, n);
                        if (!w.text.equals("up") && !w.text.equals("down")) {
                            throw new Faulty(2, w.start);
                        }
                        when = w.text;
                        i += 2;
                    }
                    continue;
                }
                int sign = 1;
                if (part == 'W' && t.text.equals("-")) {
                    sign = -1;
                    t = at(tokens, ++i, n);
                }
                if (!t.text.matches("[0-9]+")) {
                    throw new Faulty(2, t.start);
                }
                long v = Long.parseLong(t.text);
                if (part == 'P' && v > 19 || part == 'N' && out(v, 1, 40)) {
                    throw new Faulty(4, t.start);
                }
                if (part == 'W') {
                    whole = sign * v;
                } else {
                    numbers[filled++] = (int) v;
                    leadStart = t.start;
                }
                i++;
            }
            Token end = at(tokens, i++, n);
            if (!end.text.equals(";")) {
                throw new Faulty(2, end.start);
            }
            deck.add(new Card(word.text, numbers, whole, when, leadStart));
        }
        for (int c = 0; c < deck.size(); c++) {
            Card card = deck.get(c);
            boolean back = card.word.equals("back") && c - card.numbers[0] < 0;
            boolean on = card.word.equals("on") && c + card.numbers[0] > deck.size();
            if (back || on) {
                throw new Faulty(5, card.leadStart);
            }
        }
        return deck;
    }

    long fault(int what) {
        return what == 0 ? fault : what == 1 ? faultPlace : -1;
    }

    long run() {
        if (text == null) {
            return no(8);
        }
        hasRun = true;
        prints = new ArrayList<>();
        places = new long[20];
        account = new int[] {0, 0, -1, 0};
        boolean up = false;
        int at = 0;
        BigInteger limit = BigInteger.TEN.pow(12);
        while (at < text.size()) {
            Card card = text.get(at);
            if (account[3] == 5000) {
                return alarm(4, at);
            }
            int next = at + 1;
            BigInteger a = BigInteger.valueOf(places[card.numbers[0]% 20]);
            BigInteger b = BigInteger.valueOf(places[card.numbers[1]]);
            BigInteger c = null;
            BigInteger rest = null;
            int cost = 2;
            switch (card.word) {
                case "put":
                    places[card.numbers[0]] = card.whole;
                    cost = 1;
                    break;
                case "print":
                    if (prints.size() == 40) {
                        return alarm(3, at);
                    }
                    prints.add(places[card.numbers[0]]);
                    cost = 1;
                    break;
                case "add":
                    c = a.add(b);
                    break;
                case "sub":
                    c = a.subtract(b);
                    break;
                case "mul":
                    c = a.multiply(b);
                    cost = 2 + sizes(least(a.abs().longValueExact(), 13));
                    break;
                case "div":
                    if (b.signum() == 0) {
                        return alarm(2, at);
                    }
                    c = a.divide(b);
                    rest = a.remainder(b);
                    cost = 3 + sizes(least(c.abs().longValueExact(), 13));
                    break;
                default:
                    cost = 0;
                    if (card.when.isEmpty() || card.when.equals("up") == up) {
                        boolean back = card.word.equals("back");
                        next = back ? at - card.numbers[0] : at + card.numbers[0];
                        cost = back ? card.numbers[0] : 0;
                    }
                    break;
            }
            if (c != null) {
                if (c.abs().compareTo(limit) >= 0) {
                    return alarm(1, at);
                }
                places[card.numbers[2]] = c.longValueExact();
                up = c.signum() < 0;
            }
            if (rest != null) {
                places[card.numbers[3]] = rest.longValueExact();
            }
            account[0] += cost;
            account[3]++;
            at = next;
        }
        return yes(prints.size());
    }

    private long alarm(int kind, int card) {
        account[1] = kind;
        account[2] = card;
        return yes(prints.size());
    }

    long ran(int what) {
        if (out(what, 0, 3)) {
            return no(5);
        }
        return hasRun ? yes(account[what]) : no(8);
    }

    long printed(int k) {
        return out(k, 0, prints.size() - 1) ? no(8) : yes(prints.get(k));
    }

    long place(int place) {
        if (out(place, 0, 19)) {
            return no(2);
        }
        return hasRun ? yes(places[place]) : no(8);
    }

    // turns, errata

    static int sizes(int[] figures) {
        int sum = 0;
        for (int f : figures) {
            sum += Math.abs(f);
        }
        return sum;
    }

    /** All ways are tried, the greater figure first; null if there is none with so many figures. */
    static int[] least(long number, int figures) {
        if (figures == 0) {
            return number == 0 ? new int[0] : null;
        }
        int[] best = null;
        for (int d = 9; d >= -9; d--) {
            if ((number - d) % 10 != 0 || number == 0 && d != 0) {
                continue;
            }
            int[] rest = least((number - d) / 10, figures - 1);
            if (rest == null) {
                continue;
            }
            int[] way = new int[figures];
            way[0] = d;
            System.arraycopy(rest, 0, way, 1, figures - 1);
            if (best == null || sizes(way) < sizes(best)) {
                best = way;
            }
        }
        return best;
    }

    long turns(long number) {
        return out(number, 0, 999999999999L) ? no(5) : yes(sizes(least(number, 13)));
    }

    long turnsAt(long number, int k) {
        return out(number, 0, 999999999999L) || out(k, 0, 12) ? no(5) : yes(least(number, 13)[k]);
    }

    private static boolean smooth(long[] values, int k, int b) {
        long[] v = values.clone();
        int n = v.length;
        for (int order = 1; order <= k; order++) {
            n--;
            for (int i = 0; i < n; i++) {
                v[i] = v[i + 1] - v[i];
            }
        }
        for (int i = 0; i < n; i++) {
            if (Math.abs(v[i]) > b) {
                return false;
            }
        }
        return true;
    }

    private static long[] corrections(long value) {
        java.util.TreeSet<Long> set = new java.util.TreeSet<>();
        String figures = String.format("%08d", value);
        for (int p = 0; p < 8; p++) {
            for (char f = '0'; f <= '9'; f++) {
                set.add(Long.valueOf(figures.substring(0, p) + f + figures.substring(p + 1)));
            }
            if (p < 7) {
                char[] c = figures.toCharArray();
                c[p] = figures.charAt(p + 1);
                c[p + 1] = figures.charAt(p);
                set.add(Long.valueOf(new String(c)));
            }
        }
        set.remove(value);
        return set.stream().mapToLong(Long::longValue).toArray();
    }

    long errata(int tray, int n, int k, int b) {
        if (out(tray, 0, 3)) {
            return no(1);
        }
        if (trays[tray] == null) {
            return no(3);
        }
        if (out(n, 3, 20) || out(k, 1, 4) || k >= n || out(b, 0, 1000)) {
            return no(5);
        }
        if (trays[tray].length < n) {
            return no(4);
        }
        long[] table = Arrays.copyOf(trays[tray], n);
        for (long v : table) {
            if (out(v, 0, 99999999)) {
                return no(5);
            }
        }
        List<int[]> list = putRight(table, k, b);
        if (list == null) {
            return no(8);
        }
        findings = list;
        return yes(list.size());
    }

    private static List<int[]> putRight(long[] table, int k, int b) {
        if (smooth(table, k, b)) {
            return List.of();
        }
        for (int i = 0; i < table.length; i++) {
            long[] trial = table.clone();
            for (long c : corrections(table[i])) {
                trial[i] = c;
                if (smooth(trial, k, b)) {
                    return List.of(new int[] {i, (int) c});
                }
            }
        }
        for (int i = 0; i < table.length; i++) {
            for (int j = i + 1; j < table.length; j++) {
                long[] trial = table.clone();
                for (long c : corrections(table[i])) {
                    trial[i] = c;
                    for (long d : corrections(table[j])) {
                        trial[j] = d;
                        if (smooth(trial, k, b)) {
                            return List.of(new int[] {i, (int) c}, new int[] {j, (int) d});
                        }
                    }
                }
            }
        }
        return null;
    }

    long right(int j, int what) {
        if (out(what, 0, 1)) {
            return no(5);
        }
        return out(j, 0, findings.size() - 1) ? no(8) : yes(findings.get(j)[what]);
    }

    // plates and jobs

    private int rowCode(int day, int row, int number, boolean full) {
        if (out(row, 0, 39)) {
            return 2;
        }
        if (out(day, 0, 9999) || out(number, -1000000000, 1000000000)) {
            return 5;
        }
        return full ? 7 : day < today ? 12 : 0;
    }

    long cast(int day, int row, int number) {
        int code = rowCode(day, row, number, casts == 100);
        if (code != 0) {
            return no(code);
        }
        today = day;
        casts++;
        plate = plate.clone();
        plate[row] = number;
        return yes(1);
    }

    long print(int day, int many) {
        if (out(day, 0, 9999) || out(many, 1, 1000)) {
            return no(5);
        }
        if (printings == 20) {
            return no(7);
        }
        if (day < today) {
            return no(12);
        }
        today = day;
        printings++;
        for (int i = 0; i < many; i++) {
            copies.add(plate);
        }
        return yes(copies.size());
    }

    long tell(int day, int row, int number) {
        int code = rowCode(day, row, number, tells.size() == 60);
        if (code != 0) {
            return no(code);
        }
        today = day;
        tells.add(new int[] {day, row, number});
        return yes(1);
    }

    long says(int copy, int row) {
        if (out(row, 0, 39)) {
            return no(2);
        }
        return out(copy, 1, copies.size()) ? no(8) : yes(copies.get(copy - 1)[row]);
    }

    private int wrongIn(int[] copy, int known) {
        Integer[] right = new Integer[40];
        for (int[] t : tells) {
            if (t[0] <= known) {
                right[t[1]] = t[2];
            }
        }
        int sum = 0;
        for (int row = 0; row < 40; row++) {
            if (right[row] != null && right[row] != copy[row]) {
                sum++;
            }
        }
        return sum;
    }

    long wrong(int copy, int known) {
        if (out(known, 0, 9999)) {
            return no(5);
        }
        return out(copy, 1, copies.size()) ? no(8) : yes(wrongIn(copies.get(copy - 1), known));
    }

    long bad(int known) {
        if (out(known, 0, 9999)) {
            return no(5);
        }
        return yes(copies.stream().filter(c -> wrongIn(c, known) > 0).count());
    }

    long job(int axes, int wheels, int turns) {
        if (out(axes, 2, 7) || out(wheels, 1, 12) || out(turns, 1, 1000)) {
            return no(5);
        }
        if (jobs.size() == 7) {
            return no(7);
        }
        jobs.add(new int[] {axes, wheels, turns});
        return yes(jobs.size() - 1);
    }

    /** The greatest sum, then the engine of each job; null if it can't be. */
    private int[] parted() {
        int[] best = null;
        int ways = 1;
        for (int i = 0; i < jobs.size(); i++) {
            ways *= machines.size();
        }
        for (int way = 0; way < ways; way++) {
            int[] trial = new int[jobs.size() + 1];
            int rest = way;
            for (int i = jobs.size(); i >= 1; i--) {
                trial[i] = rest % machines.size();
                rest /= machines.size();
            }
            int[] sums = new int[4];
            boolean fits = true;
            for (int i = 0; i < jobs.size(); i++) {
                Machine m = machines.get(trial[i + 1]);
                fits &= m.figures.length >= jobs.get(i)[0] && m.radix.length >= jobs.get(i)[1];
                sums[trial[i + 1]] += jobs.get(i)[2];
            }
            trial[0] = Arrays.stream(sums).max().getAsInt();
            if (fits && (best == null || trial[0] < best[0])) {
                best = trial;
            }
        }
        return best;
    }

    long part() {
        int[] best = parted();
        return best == null ? no(9) : yes(best[0]);
    }

    long partOf(int job) {
        if (out(job, 0, jobs.size() - 1)) {
            return no(2);
        }
        int[] best = parted();
        return best == null ? no(9) : yes(best[job + 1]);
    }
}
