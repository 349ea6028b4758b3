/** Promises 1 and 2: a new object, status. */
final class NewObjectTest {
    public static void main(String[] args) {
        Due due = new Due();
        WheelTables x = new WheelTables();
        due.is("NONE", WheelTables.NONE, -1);
        due.is("status() of a new object", x.status(), 0);
        for (int tray = 0; tray < 4; tray++) {
            due.refused(x, "read of a new tray", x.read(tray, 0), 3);
        }
        due.refused(x, "no engine", x.number(0, 0), 2);
        due.refused(x, "no text", x.run(), 8);
        due.is("feed on an empty tape", x.feed(0, 0, 0, 0, 0), 20);
        due.done(x, "day 0", x.cast(0, 0, 1));

        x.read(9, 0);
        due.is("status() of the latest call", x.status(), 1);
        due.is("status() again", x.status(), 1);
        x.feed(0, 0, 0, 0, 0);
        due.is("feed() has no STATUS", x.status(), 1);
        x.fault(0);
        x.fault(7);
        due.is("fault() has no STATUS", x.status(), 1);
        x.turns(1);
        due.is("a call that is done", x.status(), 0);
        due.end();
    }
}
