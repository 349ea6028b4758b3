/** What the tests of the mill ask again and again of texts and runs. */
abstract class MillAsks {
    static final Due due = new Due();

    static void good(String text, int count) {
        WheelTables x = new WheelTables();
        due.done(x, "cards of '" + text + "'", Works.cards(x, text), count);
        due.is("fault(0) of '" + text + "'", x.fault(0), 0);
        due.is("fault(1) of '" + text + "'", x.fault(1), -1);
    }

    static void faulty(String text, int kind, int place) {
        WheelTables x = new WheelTables();
        due.refused(x, "cards of '" + text + "'", Works.cards(x, text), 10);
        due.is("fault(0) of '" + text + "'", x.fault(0), kind);
        due.is("fault(1) of '" + text + "'", x.fault(1), place);
    }

    static WheelTables ran(String text, int prints) {
        WheelTables x = new WheelTables();
        Works.cards(x, text);
        due.is("status() of '" + text + "'", x.status(), 0);
        due.done(x, "run of '" + text + "'", x.run(), prints);
        return x;
    }

    static void account(WheelTables x, String of, int cranks, int alarm, int card, int done) {
        due.done(x, of + ": cranks", x.ran(0), cranks);
        due.done(x, of + ": alarm", x.ran(1), alarm);
        due.done(x, of + ": card", x.ran(2), card);
        due.done(x, of + ": cards done", x.ran(3), done);
    }
}
