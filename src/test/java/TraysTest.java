/** Promises 3 to 6: tray, write, read, pour. */
final class TraysTest {
    private static final Due due = new Due();

    public static void main(String[] args) {
        makes();
        writesAndReads();
        cutsToTheSort();
        pours();
        refusesToPour();
        due.end();
    }

    private static void makes() {
        WheelTables x = new WheelTables();
        due.refused(x, "tray(4, 0, 1)", x.tray(4, 0, 1), 1);
        due.refused(x, "tray(-1, 0, 1)", x.tray(-1, 0, 1), 1);
        due.refused(x, "tray(0, 4, 1)", x.tray(0, 4, 1), 1);
        due.refused(x, "tray(0, -1, 61)", x.tray(0, -1, 61), 1);
        due.refused(x, "tray(0, 0, 61)", x.tray(0, 0, 61), 5);
        due.refused(x, "tray(0, 0, -1)", x.tray(0, 0, -1), 6);
        due.refused(x, "a tray that was refused", x.read(0, 0), 3);
        due.done(x, "tray(0, 0, 60)", x.tray(0, 0, 60));
        due.done(x, "the last of 60", x.read(0, 59), 0);
        due.done(x, "write(0, 59, 7)", x.write(0, 59, 7));
        due.refused(x, "tray(0, 1, 61)", x.tray(0, 1, 61), 5);
        due.done(x, "a refused call changes nothing", x.read(0, 59), 7);
        due.done(x, "tray anew", x.tray(0, 1, 60));
        due.done(x, "all 0 anew", x.read(0, 59), 0);
        due.done(x, "tray(3, 3, 0)", x.tray(3, 3, 0));
        due.refused(x, "an empty tray has no place", x.read(3, 0), 4);
    }

    private static void writesAndReads() {
        WheelTables x = new WheelTables();
        due.refused(x, "write(4, ..)", x.write(4, 0, 1), 1);
        due.refused(x, "write to a missing one", x.write(1, 0, 1), 3);
        x.tray(1, 3, 2);
        due.refused(x, "write behind it", x.write(1, 2, 1), 4);
        due.refused(x, "write ahead of it", x.write(1, -1, 1), 4);
        due.refused(x, "read(-1, 0)", x.read(-1, 0), 1);
        due.refused(x, "read behind it", x.read(1, 2), 4);
        due.done(x, "write -1", x.write(1, 1, -1));
        due.done(x, "read -1", x.read(1, 1), -1);
        due.done(x, "the other place", x.read(1, 0), 0);
    }

    private static void cutsToTheSort() {
        long v = 0x123456789ABCDEF0L;
        long[] cut = {(byte) 0xF0, (short) 0xDEF0, 0x9ABCDEF0, v};
        WheelTables x = new WheelTables();
        for (int sort = 0; sort < 4; sort++) {
            x.tray(sort, sort, 1);
            due.done(x, "write to sort " + sort, x.write(sort, 0, v));
            due.done(x, "read of sort " + sort, x.read(sort, 0), cut[sort]);
        }
        x.write(0, 0, 128);
        due.done(x, "128 in 8 bits", x.read(0, 0), -128);
        x.write(1, 0, -32769);
        due.done(x, "-32,769 in 16 bits", x.read(1, 0), 32767);
        x.write(2, 0, 1L << 31);
        due.done(x, "2 to the 31 in 32 bits", x.read(2, 0), Integer.MIN_VALUE);
    }

    private static WheelTables withNumbers() {
        WheelTables x = new WheelTables();
        x.tray(0, 2, 5);
        x.tray(1, 2, 3);
        x.tray(2, 1, 3);
        for (int i = 0; i < 5; i++) {
            x.write(0, i, i + 1);
        }
        return x;
    }

    private static void numbers(WheelTables x, int tray, long... want) {
        for (int i = 0; i < want.length; i++) {
            due.is("tray " + tray + ", place " + i, x.read(tray, i), want[i]);
        }
    }

    private static void pours() {
        WheelTables x = withNumbers();
        due.done(x, "pour into another one", x.pour(0, 1, 1, 0, 3));
        numbers(x, 1, 2, 3, 4);
        numbers(x, 0, 1, 2, 3, 4, 5);
        due.done(x, "pour on within one", x.pour(0, 0, 0, 1, 4));
        numbers(x, 0, 1, 1, 2, 3, 4);
        due.done(x, "pour back within one", x.pour(0, 2, 0, 0, 3));
        numbers(x, 0, 2, 3, 4, 3, 4);
        due.done(x, "pour nothing from the end", x.pour(0, 5, 1, 3, 0));
        numbers(x, 1, 2, 3, 4);
    }

    private static void refusesToPour() {
        WheelTables x = withNumbers();
        due.refused(x, "from no tray", x.pour(4, 0, 3, 0, -1), 1);
        due.refused(x, "to no tray", x.pour(3, 0, -1, 0, 1), 1);
        due.refused(x, "from a missing one", x.pour(3, 0, 1, 0, 1), 3);
        due.refused(x, "to a missing one", x.pour(0, 0, 3, 0, -1), 3);
        due.refused(x, "unlike sorts", x.pour(0, 0, 2, 0, -1), 11);
        due.refused(x, "below 0", x.pour(0, 9, 1, 0, -1), 6);
        due.refused(x, "too few there", x.pour(0, 3, 1, 0, 3), 4);
        due.refused(x, "too few here", x.pour(0, 0, 1, 1, 3), 4);
        due.refused(x, "ahead of it", x.pour(0, -1, 1, 0, 1), 4);
        due.refused(x, "ahead of the other one", x.pour(0, 0, 1, -1, 1), 4);
        due.refused(x, "far too many", x.pour(0, 1, 1, 1, Integer.MAX_VALUE), 4);
        due.refused(x, "far behind it", x.pour(0, Integer.MAX_VALUE, 1, 0, 1), 4);
        due.refused(x, "nothing, from behind the end", x.pour(0, 6, 1, 0, 0), 4);
        numbers(x, 1, 0, 0, 0);
    }
}
