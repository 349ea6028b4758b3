/** What the tests of edges furnish their works with. */
final class Works {
    private Works() {
    }

    static void fill(WheelTables x, int tray, int sort, long... numbers) {
        x.tray(tray, sort, numbers.length);
        for (int i = 0; i < numbers.length; i++) {
            x.write(tray, i, numbers[i]);
        }
    }

    /** New works with one engine; tray 0 holds its radixes. */
    static WheelTables with(int axes, long... radix) {
        WheelTables x = new WheelTables();
        fill(x, 0, 3, radix);
        x.engine(axes, radix.length, 0);
        return x;
    }

    /** So many equal numbers. */
    static long[] times(int many, long number) {
        long[] numbers = new long[many];
        java.util.Arrays.fill(numbers, number);
        return numbers;
    }

    /** Puts a number on an axis of an engine, wheel by wheel. */
    static void lay(WheelTables x, int engine, int axis, int... figures) {
        for (int wheel = 0; wheel < figures.length; wheel++) {
            x.put(engine, axis, wheel, figures[wheel]);
        }
    }

    static void feed(WheelTables x, String text) {
        for (int[] w : Tape.feeds(text)) {
            x.feed(w[0], w[1], w[2], w[3], w[4]);
        }
    }

    static int cards(WheelTables x, String text) {
        feed(x, text);
        return x.cards(text.length());
    }

    /** So many turns more, 200 at a time. */
    static void turnOn(WheelTables x, int engine, int turns) {
        for (int left = turns; left > 0; left -= 200) {
            x.turn(engine, Math.min(left, 200));
        }
    }
}
