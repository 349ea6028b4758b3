/** Promises 19 to 25: feed, cards, fault, run, ran, printed, place. */
final class MillTest extends MillAsks {
    public static void main(String[] args) {
        feeds();
        readsCards();
        readsTokens();
        findsFaults();
        countsCards();
        followsLeads();
        takesTheFirstFault();
        keepsTheText();
        reckons();
        divides();
        movesTheLever();
        leads();
        soundsAlarms();
        endsInTime();
        countsCranks();
        refuses();
        due.end();
    }

    private static void feeds() {
        WheelTables x = new WheelTables();
        for (int i = 1; i <= 25; i++) {
            due.is("feed " + i, x.feed(0x3b3b3b3b, 0, 0, 0, 0), 20 * i);
        }
        due.is("one feed too many", x.feed(0, 0, 0, 0, 0), -1);
        due.refused(x, "more than there is", x.cards(501), 5);
        due.refused(x, "below 0", x.cards(-1), 5);
        due.is("the tape stays with 5", x.feed(0, 0, 0, 0, 0), -1);
        due.is("fault ahead of any", x.fault(0), -1);
        due.refused(x, "500 bytes", x.cards(500), 10);
        due.is("the tape is empty then", x.feed(0, 0, 0, 0, 0), 20);
        due.done(x, "no bytes at all", x.cards(0), 0);
        due.is("empty again", x.feed(0, 0, 0, 0, 0), 20);

        WheelTables order = new WheelTables();
        order.feed(0x7075_7420, 0x3132_2033, 0x3435_363b, 0x7072_696e, 0x7420_3132);
        order.feed(0x3b80_80ff, -1, -1, -1, -1);
        due.done(order, "the highest byte first", order.cards(21), 2);
        order.run();
        due.done(order, "put 12 3456;print 12;", order.printed(0), 3456);
        faulty("put 0 1;" + (char) 255, 1, 8);
    }

    private static void readsCards() {
        good("", 0);
        good(" \n \n", 0);
        good("put 0 1;", 1);
        good("put 19 -999999999999;", 1);
        good("add 1 2 3;sub 1 2 3;mul 1 2 3;div 1 2 3 4;print 0;", 5);
        good("print 0; back 1; back 2 if up; back 3 if down; on 1; on 1 if up; on 1 if down;", 7);
    }

    private static void readsTokens() {
        good("put0-5;print\n0 ;", 2);
        good("put 0 - 5 ;", 1);
        good("put 000000000019 000000000000;", 1);
        good("print 0;back 1if up;", 2);
        faulty("putt 0 1;", 2, 0);
        faulty("pu t 0 1;", 2, 0);
        faulty("z", 2, 0);
        faulty("put 0 az;", 2, 6);
        faulty("{", 1, 0);
        faulty("`", 1, 0);
        faulty("/", 1, 0);
        faulty("put 0 9:", 1, 7);
        faulty("Put 0 1;", 1, 0);
        faulty("put\t0 1;", 1, 3);
        faulty("put 0 1\r;", 1, 7);
        faulty("put 0 1, ;", 1, 7);
        faulty("put 0 0000000000001;", 1, 6);
        faulty("put 0000000000001 1;", 1, 4);
        faulty("put 0 -1234567890123;", 1, 7);
        faulty("1234567890123", 1, 0);
        faulty("print 0; back 1if upp;", 2, 18);
    }

    private static void findsFaults() {
        faulty("put", 2, 3);
        faulty("put  \n", 2, 6);
        faulty("put 0 1", 2, 7);
        faulty("put 0 1 ", 2, 8);
        faulty("put put 0;", 2, 4);
        faulty("put 0 1 2;", 2, 8);
        faulty("put 0 --1;", 2, 7);
        faulty("put -1 1;", 2, 4);
        faulty(";", 2, 0);
        faulty("put 0 1;;", 2, 8);
        faulty("0", 2, 0);
        faulty("if", 2, 0);
        faulty("add 1 2 ;", 2, 8);
        faulty("add 1 2 3 4;", 2, 10);
        faulty("div 1 2 3;", 2, 9);
        faulty("print;", 2, 5);
        faulty("print 0; back;", 2, 13);
        faulty("print 0; back -1;", 2, 14);
        faulty("print 0; back 1 up;", 2, 16);
        faulty("print 0; back 1 if;", 2, 18);
        faulty("print 0; back 1 if put;", 2, 19);
        faulty("print 0; back 1 if up down;", 2, 22);
        faulty("print 0; back 1 if", 2, 18);
        faulty("put 20 1;", 4, 4);
        faulty("add 1 2 20;", 4, 8);
        faulty("div 1 2 3 999999999999;", 4, 10);
        faulty("back 0;", 4, 5);
        faulty("back 41;", 4, 5);
        faulty("on 41;", 4, 3);
        faulty("on 4294967297;", 4, 3);
    }

    private static void countsCards() {
        String forty = "print 0;".repeat(40);
        good(forty, 40);
        faulty(forty + " print 0;", 3, 321);
        faulty(forty + " print 20 20", 3, 321);
        faulty(forty + " prin", 2, 321);
        faulty(forty + " ;", 2, 321);
        faulty(forty + " !", 1, 321);
        good("print 0;".repeat(39) + "on 1;", 40);
        faulty("print 0;".repeat(39) + "on 2;", 5, 315);
        good("print 0;".repeat(39) + "back 39;", 40);
        faulty("print 0;".repeat(39) + "back 40;", 5, 317);
    }

    private static void followsLeads() {
        good("on 1;", 1);
        faulty("on 2;", 5, 3);
        faulty("on  2 if up ;", 5, 4);
        good("on 2;print 0;", 2);
        faulty("on 3;print 0;", 5, 3);
        faulty("back 1;", 5, 5);
        good("print 0;back 1;", 2);
        faulty("print 0;back 2;", 5, 13);
        faulty("back 3;on 5;", 5, 5);
        faulty("on 5;back 3;", 5, 3);
    }

    private static void takesTheFirstFault() {
        faulty("back 1; put 99 5;", 4, 12);
        faulty("back 1; x", 2, 8);
        faulty("back 1; #", 1, 8);
        faulty("put 20 #", 4, 4);
        faulty("put 0 ; #", 2, 6);
        faulty("put 20", 4, 4);
        faulty("back 41 if x", 4, 5);
    }

    private static void keepsTheText() {
        WheelTables x = new WheelTables();
        Works.cards(x, "put 3 7; print 3;");
        due.refused(x, "a fault", Works.cards(x, "put 3 8; print 3; print"), 10);
        due.is("fault(0)", x.fault(0), 2);
        due.done(x, "the text stays", x.run(), 1);
        due.done(x, "what it prints", x.printed(0), 7);
        due.refused(x, "too many bytes", x.cards(1), 5);
        due.is("fault(0) stays with 5", x.fault(0), 2);
        due.is("fault(1) stays with 5", x.fault(1), 23);
        due.is("fault(2)", x.fault(2), -1);
        due.is("fault(-1)", x.fault(-1), -1);
        due.done(x, "a new text", Works.cards(x, "put 3 9;"), 1);
        due.done(x, "the latest run stays till the next one", x.printed(0), 7);
        due.done(x, "its places, too", x.place(3), 7);
        due.done(x, "its account, too", x.ran(3), 2);
        due.done(x, "run", x.run(), 0);
        due.refused(x, "nothing printed by it", x.printed(0), 8);
        due.done(x, "an empty text", x.cards(0), 0);
        due.done(x, "has a run", x.run(), 0);
        account(x, "an empty text", 0, 0, -1, 0);
        due.done(x, "places are 0", x.place(3), 0);
    }

    private static void reckons() {
        WheelTables x = ran("put 1 30; put 2 -12; add 1 2 3; sub 1 2 4; mul 1 2 5; add 3 3 3;", 0);
        long[] want = {0, 30, -12, 36, 42, -360};
        for (int i = 0; i < want.length; i++) {
            due.done(x, "place " + i, x.place(i), want[i]);
        }
        x = ran("put 0 -999999999999; put 1 -1; mul 0 1 2; div 0 1 3 4; print 2; print 3; sub 0 4 0; print 0;", 3);
        due.done(x, "product", x.printed(0), 999999999999L);
        due.done(x, "quotient", x.printed(1), 999999999999L);
        due.done(x, "the greatest below 0", x.printed(2), -999999999999L);
        x = ran("put 0 7; sub 0 0 0; put 1 5; mul 1 1 1; print 0; print 1;", 2);
        due.done(x, "of one place", x.printed(0), 0);
        due.done(x, "squared in its place", x.printed(1), 25);
    }

    private static void divides() {
        long[][] due4 = {{7, 2, 3, 1}, {-7, 2, -3, -1}, {7, -2, -3, 1}, {-7, -2, 3, -1}};
        for (long[] d : due4) {
            String puts = "put 0 " + d[0] + "; put 1 " + d[1] + "; ";
            WheelTables x = ran(puts + "div 0 1 2 3;", 0);
            due.done(x, "quotient", x.place(2), d[2]);
            due.done(x, "what is left", x.place(3), d[3]);
            x = ran(puts + "div 0 1 4 4;", 0);
            due.done(x, "of one place for both", x.place(4), d[3]);
            x = ran(puts + "div 0 1 1 0;", 0);
            due.done(x, "quotient in the divisor's place", x.place(1), d[2]);
            due.done(x, "what is left in the other one", x.place(0), d[3]);
        }
    }

    /** 1 is printed if the lever is up behind the cards. */
    private static void lever(String cards, int up) {
        WheelTables x = ran("put 0 5; put 1 -5; put 2 2; put 9 1; " + cards + " on 2 if down; print 9;", up);
        due.done(x, "status", x.ran(1), 0);
        WheelTables y = ran("put 0 5; put 1 -5; put 2 2; put 9 1; " + cards + " on 2 if up; print 9;", 1 - up);
        due.done(y, "status", y.ran(1), 0);
    }

    private static void movesTheLever() {
        lever("", 0);
        lever("add 0 1 3;", 0);
        lever("add 1 1 3;", 1);
        lever("sub 0 2 3;", 0);
        lever("sub 2 0 3;", 1);
        lever("mul 0 1 3;", 1);
        lever("mul 1 1 3;", 0);
        lever("mul 1 4 3;", 0);
        lever("div 1 2 3 4;", 1);
        lever("div 2 1 3 4;", 0);
        lever("sub 2 0 3; put 3 1; on 1;", 1);
        lever("sub 2 0 3; add 0 0 3;", 0);
        // the number in C is A by B, even if what is left over then takes its place
        lever("put 3 -6; div 3 2 4 4;", 1);
        lever("put 3 -1; div 3 2 4 4;", 0);
    }

    private static void leads() {
        WheelTables x = ran("on 2; print 0; on 3 if up; print 0; on 1; print 0;", 2);
        account(x, "on", 2, 0, -1, 5);
        x = ran("put 1 3; put 2 1; print 1; sub 1 2 1; on 2 if up; back 3; print 1;", 5);
        account(x, "back", 2 + 4 * 3 + 3 * 3 + 1, 0, -1, 2 + 4 * 3 + 3 + 1);
        due.done(x, "the last print", x.printed(4), -1);
        x = ran("print 0; back 1 if up;", 1);
        account(x, "a back that is not done", 1, 0, -1, 2);
    }

    private static void soundsAlarms() {
        WheelTables x = ran("put 0 999999999999; put 1 1; add 0 1 0;", 0);
        account(x, "add too great", 2, 1, 2, 2);
        due.done(x, "nothing comes of it", x.place(0), 999999999999L);
        x = ran("put 0 -999999999999; put 1 1; sub 0 1 0; print 0;", 0);
        account(x, "sub too great", 2, 1, 2, 2);
        x = ran("put 0 999999999999; mul 0 0 1;", 0);
        account(x, "mul far too great", 1, 1, 1, 1);
        x = ran("put 0 500000000000; put 1 -2; mul 0 1 2;", 0);
        account(x, "mul one too great", 2, 1, 2, 2);
        x = ran("put 0 499999999999; put 1 -2; mul 0 1 2; print 2;", 1);
        due.done(x, "mul not too great", x.printed(0), -999999999998L);
        x = ran("print 3; div 0 1 2 3; print 0;", 1);
        account(x, "div by 0", 1, 2, 1, 1);
        x = ran("print 0; back 1;", 40);
        account(x, "a 41st print", 80, 3, 0, 80);
        due.refused(x, "no 41st print", x.printed(40), 8);
    }

    private static void endsInTime() {
        WheelTables x = ran("put 0 1; back 1;", 0);
        account(x, "a 5,001st card", 5000, 4, 0, 5000);
        // 1,665 rounds of three cards, and two for the last one
        String rounds = "put 0 1665; put 1 1; sub 0 1 0; on 2 if up; back 2;";
        x = ran("on 1;" + rounds, 0);
        account(x, "just 5,000 cards", 2 + 2 * 1666 + 2 * 1665, 0, -1, 5000);
        x = ran("on 1; on 1;" + rounds, 0);
        account(x, "just 5,001 cards", 2 + 2 * 1666 + 2 * 1665, 4, 5, 5000);
        due.done(x, "what was done stands", x.place(0), -1);
    }

    private static void countsCranks() {
        WheelTables x = ran("put 0 19; put 1 3; mul 0 1 2; mul 1 0 3; div 0 1 4 5; print 4;", 1);
        // 19 is 20 less 1: 3 turns; 3: 3 turns; 19 by 3 is 6: 10 less 4, 5 turns
        account(x, "cranks", 2 + (2 + 3) + (2 + 3) + (3 + 5) + 1, 0, -1, 6);
        x = ran("put 0 -19; mul 0 0 0; put 1 -9; div 0 1 1 2;", 0);
        // -19: 3 turns; 361 by -9 is -40: 4 turns
        account(x, "of the sizes", 2 + (2 + 3) + (3 + 4), 0, -1, 4);
        x = ran("put 0 9; put 1 2; div 0 1 2 2;", 0);
        account(x, "of A by B, if one place is for both", 2 + (3 + 4), 0, -1, 3);
    }

    private static void refuses() {
        WheelTables x = new WheelTables();
        due.refused(x, "run without a text", x.run(), 8);
        due.refused(x, "ran(0) ahead of any", x.ran(0), 8);
        due.refused(x, "ran(4) ahead of any", x.ran(4), 5);
        due.refused(x, "printed(0) ahead of any", x.printed(0), 8);
        due.refused(x, "place(0) ahead of any", x.place(0), 8);
        due.refused(x, "place(20) ahead of any", x.place(20), 2);
        Works.cards(x, "put 0 -1; print 0;");
        due.refused(x, "place(0) ahead of a run", x.place(0), 8);
        x.run();
        due.refused(x, "ran(-1)", x.ran(-1), 5);
        due.refused(x, "ran(4)", x.ran(4), 5);
        due.refused(x, "printed(-1)", x.printed(-1), 8);
        due.refused(x, "printed(1)", x.printed(1), 8);
        due.done(x, "printed -1", x.printed(0), -1);
        due.refused(x, "place(-1)", x.place(-1), 2);
        due.refused(x, "place(20)", x.place(20), 2);
        due.done(x, "-1 in a place", x.place(0), -1);
        due.done(x, "ran(2) without an alarm", x.ran(2), -1);
    }
}
