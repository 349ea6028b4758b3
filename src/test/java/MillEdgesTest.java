/** The edges of the mill, sentence by sentence: promises 19 to 25, and what stands under "Terms" for them. */
final class MillEdgesTest extends MillAsks {
    private static final String MOST = "999999999999";

    public static void main(String[] args) {
        fullTape();
        highestByteFirst();
        firstBytes();
        fiveHundredBytes();
        blanksAndSigns();
        wordsAndNumbers();
        asLongAsTheyGo();
        noCards();
        cardsOfEveryKind();
        places();
        words();
        wholes();
        firstFault();
        noTokenBeginsSo();
        cannotStandThere();
        theEnd();
        fortyFirstCard();
        numbersThatCannotBe();
        leadsTooFar();
        textStays();
        textsOneAfterTheOther();
        latestFault();
        startsAnew();
        reckonsToTheMost();
        dividesTowardsZero();
        lever();
        leads();
        tooGreat();
        divByZero();
        fortyFirstPrint();
        lastCards();
        endsBehindTheLast();
        cranks();
        account();
        printedOnes();
        placesBehindIt();
        due.end();
    }

    private static void fullTape() {
        due.sentence("how many it has; NONE if there would be more than 500.");
        WheelTables x = new WheelTables();
        for (int i = 1; i <= 25; i++) {
            due.is("feed " + i, x.feed(0x7072696e, 0x7420303b, 0x20202020, 0x20202020, 0x20202020), 20 * i);
        }
        due.is("feed 26", x.feed(0x23232323, 0, 0, 0, 0), -1);
        due.is("feed 27", x.feed(0x23232323, 0, 0, 0, 0), -1);
        due.done(x, "what was refused is not on the tape", x.cards(500), 25);
        due.is("an empty tape again", x.feed(0, 0, 0, 0, 0), 20);
    }

    private static void highestByteFirst() {
        due.sentence("Twenty bytes come behind those on the tape, the highest of each int first");
        WheelTables x = new WheelTables();
        due.is("put 01 02;put 03 4;;", x.feed(0x70757420, 0x30312030, 0x323b7075, 0x74203033, 0x20343b3b), 20);
        due.is("more", x.feed(0x80000000, 0, 0, 0, 0), 40);
        due.done(x, "two cards", x.cards(19), 2);
        x.run();
        due.done(x, "place 1", x.place(1), 2);
        due.done(x, "place 3", x.place(3), 4);
        x.feed(0x20202080, 0, 0, 0, 0);
        due.refused(x, "the lowest byte last", x.cards(4), 10);
        due.is("it is no token", x.fault(0), 1);
        due.is("at place 3", x.fault(1), 3);
        x.feed(-1, -1, -1, -1, -1);
        due.refused(x, "255 is no token", x.cards(20), 10);
        due.is("at place 0", x.fault(1), 0);
    }

    private static void firstBytes() {
        due.sentence("The first n bytes of the tape (which is empty then, but for 5) are the TEXT");
        WheelTables x = new WheelTables();
        due.refused(x, "one byte of an empty tape", x.cards(1), 5);
        due.done(x, "no byte of an empty tape", x.cards(0), 0);
        Works.feed(x, "put 0 123;print 0; #");
        due.refused(x, "one more than there are", x.cards(21), 5);
        due.refused(x, "below 0", x.cards(-1), 5);
        due.is("the tape stays with 5", x.feed(0, 0, 0, 0, 0), 40);
        due.done(x, "the first 18", x.cards(18), 2);
        due.is("the rest is gone, too", x.feed(0, 0, 0, 0, 0), 20);
        due.refused(x, "all that there are", x.cards(20), 10);
        due.is("empty with 10, too", x.feed(0, 0, 0, 0, 0), 20);
        x.cards(0);
        Works.feed(x, "put 0 123;print 0;  ");
        due.done(x, "a card that is cut short of a figure", x.cards(10), 1);
        Works.feed(x, "put 0 123;print 10; ");
        due.refused(x, "a token ends with the text", x.cards(17), 10);
        due.is("at the text's length", x.fault(1), 17);
    }

    private static void fiveHundredBytes() {
        due.sentence("CARDS: a TEXT of at most 500 bytes.");
        String text = "put 19 -" + MOST + ";" + " ".repeat(470) + "print 19;";
        due.is("a text of 500 bytes", text.length(), 500);
        WheelTables x = new WheelTables();
        due.done(x, "is read to its end", Works.cards(x, text), 2);
        due.done(x, "and run", x.run(), 1);
        due.done(x, "and prints", x.printed(0), -999999999999L);
        faulty(text.substring(0, 499) + " ", 2, 500);
        Works.feed(x, text);
        due.refused(x, "501 bytes", x.cards(501), 5);
    }

    private static void blanksAndSigns() {
        due.sentence("TOKENS, as long as they go, between them blanks (10, 32)");
        due.sentence("SIGNS ; -");
        for (int sign = 0; sign < 256; sign++) {
            String text = "put 0 " + (char) sign + "1;";
            boolean blank = sign == 10 || sign == 32;
            boolean goes = blank || sign == '-' || sign >= '0' && sign <= '9';
            boolean token = sign == ';' || sign >= 'a' && sign <= 'z';
            if (goes) {
                good(text, 1);
            } else {
                faulty(text, token ? 2 : 1, 6);
            }
        }
    }

    private static void wordsAndNumbers() {
        due.sentence("WORDS (small letters), NUMBERS (1 to 12 digits)");
        good("put 0 0;", 1);
        good("put 0 123456789012;", 1);
        faulty("put 0 1234567890123;", 1, 6);
        good("put 000000000000 1;", 1);
        faulty("put 0000000000000 1;", 1, 4);
        good("print 0; back 000000000001;", 2);
        faulty("print 0; back 0000000000001;", 1, 14);
        faulty("pUt 0 1;", 2, 0);
        faulty("Put 0 1;", 1, 0);
        faulty("PUT 0 1;", 1, 0);
    }

    private static void asLongAsTheyGo() {
        due.sentence("TOKENS, as long as they go, between them blanks (10, 32)");
        good("put0-1;print0;back1if up;", 3);
        good("put 0 -\n1\n;", 1);
        faulty("pu t 0 1;", 2, 0);
        faulty("putput 0 1;", 2, 0);
        faulty("print 0;back 1 ifup;", 2, 15);
        faulty("put 1 2 3;", 2, 8);
        good("put 12 3;", 1);
        faulty("add 1 23;", 4, 6);
        faulty("add 1 2 3 4;", 2, 10);
    }

    private static void noCards() {
        due.sentence("TEXT: {CARD}.");
        due.sentence("({ } any number of times, [ ] perhaps.)");
        good("", 0);
        good(" ", 0);
        good("\n\n  \n", 0);
        good("print 0;", 1);
        good("print 0;".repeat(40), 40);
        WheelTables x = new WheelTables();
        due.done(x, "no bytes", x.cards(0), 0);
        due.done(x, "an empty text is a text", x.run(), 0);
        account(x, "an empty text", 0, 0, -1, 0);
    }

    private static void cardsOfEveryKind() {
        due.sentence("CARD: put PLACE WHOLE ; or add PLACE PLACE PLACE ; or sub PLACE PLACE PLACE ;"
            + " or mul PLACE PLACE PLACE ; or div PLACE PLACE PLACE PLACE ; or print PLACE ;"
            + " or back NUMBER [WHEN] ; or on NUMBER [WHEN] ;");
        good("put 0 1; add 0 1 2; sub 0 1 2; mul 0 1 2; div 0 1 2 3; print 0; back 1; on 1;", 8);
        faulty("put 0 1 2;", 2, 8);
        faulty("add 0 1 2 3;", 2, 10);
        faulty("sub 0 1 2 3;", 2, 10);
        faulty("mul 0 1 2 3;", 2, 10);
        faulty("div 0 1 2 3 4;", 2, 12);
        faulty("print 0 1;", 2, 8);
        faulty("on 1 2;", 2, 5);
        due.sentence("WHEN: if up, or if down.");
        good("print 0; back 1 if up; back 1 if down; on 1 if up; on 1 if down;", 5);
        for (String word : new String[] {"back", "on"}) {
            String lead = "print 0; " + word + " 1 ";
            int at = lead.length();
            faulty(lead + "up;", 2, at);
            faulty(lead + "down;", 2, at);
            faulty(lead + "if;", 2, at + 2);
            faulty(lead + "if 1;", 2, at + 3);
            faulty(lead + "if u;", 2, at + 3);
            faulty(lead + "if dow;", 2, at + 3);
            faulty(lead + "if downs;", 2, at + 3);
            faulty(lead + "i up;", 2, at);
            faulty(lead + "iff up;", 2, at);
            faulty(lead + "if up down;", 2, at + 6);
        }
    }

    /** Every place of every card: 19 is there, 20 is not. */
    private static void places() {
        due.sentence("PLACE: a NUMBER 0 to 19.");
        due.sentence("4 a NUMBER that can't be: a PLACE above 19; back, on: 0, or above 40.");
        String[] words = {"put", "add", "sub", "mul", "div", "print"};
        int[] many = {1, 3, 3, 3, 4, 1};
        for (int w = 0; w < words.length; w++) {
            for (int at = 0; at < many[w]; at++) {
                StringBuilder last = new StringBuilder(words[w]);
                for (int i = 0; i < at; i++) {
                    last.append(" 0");
                }
                int place = last.length() + 1;
                StringBuilder first = new StringBuilder(last);
                last.append(" 19");
                first.append(" 20");
                for (int i = at + 1; i < many[w]; i++) {
                    last.append(" 0");
                    first.append(" 0");
                }
                String end = w == 0 ? " 1;" : ";";
                good(last + end, 1);
                faulty(first + end, 4, place);
            }
        }
        good("print 0000000019;", 1);
        faulty("print 0000000020;", 4, 6);
        faulty("print " + MOST + ";", 4, 6);
        faulty("print 4294967296;", 4, 6);
    }

    /** Every word with one letter less, one more, and another one in every place of it. */
    private static void words() {
        due.sentence("WORDS (small letters), NUMBERS (1 to 12 digits)");
        String[] cards = {"put 0 1;", "add 0 0 0;", "sub 0 0 0;", "mul 0 0 0;", "div 0 0 0 0;", "print 0;", "on 1;"};
        for (String card : cards) {
            int end = card.indexOf(' ');
            good(card, 1);
            faulty(card.substring(1), 2, 0);
            faulty(card.charAt(0) + card, 2, 0);
            faulty(card.substring(0, end) + "s" + card.substring(end), 2, 0);
            for (int i = 0; i < end; i++) {
                faulty(card.substring(0, i) + "z" + card.substring(i + 1), 2, 0);
            }
        }
        String lead = "print 0;back 1 if down;";
        good(lead, 2);
        good("print 0;back 1 if up;", 2);
        for (int at : new int[] {8, 9, 10, 11}) {
            faulty(lead.substring(0, at) + "z" + lead.substring(at + 1), 2, 8);
        }
        for (int at : new int[] {15, 16}) {
            faulty(lead.substring(0, at) + "z" + lead.substring(at + 1), 2, 15);
        }
        for (int at : new int[] {18, 19, 20, 21}) {
            faulty(lead.substring(0, at) + "z" + lead.substring(at + 1), 2, 18);
        }
        faulty("print 0;back 1 if zp;", 2, 18);
        faulty("print 0;back 1 if uz;", 2, 18);
    }

    private static void wholes() {
        due.sentence("WHOLE: [-] NUMBER.");
        String[] wholes = {"0", "-0", "1", "-1", MOST, "-" + MOST, "- 7", "000000000005"};
        long[] want = {0, 0, 1, -1, 999999999999L, -999999999999L, -7, 5};
        for (int i = 0; i < wholes.length; i++) {
            WheelTables x = ran("put 3 " + wholes[i] + ";", 0);
            due.done(x, "put " + wholes[i], x.place(3), want[i]);
        }
        faulty("put 0 --1;", 2, 7);
        faulty("put 0 -;", 2, 7);
        faulty("put 0 - -", 2, 8);
        faulty("put -0 1;", 2, 4);
        faulty("print -1;", 2, 6);
    }

    private static void firstFault() {
        due.sentence("FAULTS, the first along the text (of one TOKEN the least kind)");
        faulty("print 20; #", 4, 6);
        faulty("print 1 1; print 20;", 2, 8);
        faulty("print 1; # print 20;", 1, 9);
        due.sentence("(of the first such; only if there is no other FAULT).");
        faulty("back 1; print 20;", 4, 14);
        faulty("back 1; print", 2, 13);
        faulty("back 1; #", 1, 8);
        due.sentence("FAULTS, the first along the text (of one TOKEN the least kind)");
        // of one token: no token ahead of out of place, that ahead of a 41st card, or of a number that can't be
        faulty("1234567890123", 1, 0);
        faulty("print 0 20;", 2, 8);
        faulty("print 0; back 1 41;", 2, 16);
        String forty = "print 0;".repeat(40);
        faulty(forty + "#", 1, 320);
        faulty(forty + "prin 0;", 2, 320);
        faulty(forty + "20;", 2, 320);
        faulty(forty + "print 20;", 3, 320);
    }

    private static void noTokenBeginsSo() {
        due.sentence("1 no TOKEN begins so (a NUMBER of 13 digits and more: at its first).");
        faulty("put 0 1234567890123;", 1, 6);
        faulty("put 0 " + "1".repeat(60) + ";", 1, 6);
        faulty("put 0 -1234567890123;", 1, 7);
        faulty("put1234567890123 0;", 1, 3);
        faulty("print 0;1234567890123", 1, 8);
        faulty("put 0 12345678901_;", 1, 17);
        faulty("put 0 1" + (char) 0 + ";", 1, 7);
        faulty("" + (char) 128, 1, 0);
    }

    private static void cannotStandThere() {
        due.sentence("2 it can't stand there (the end: the text's length).");
        faulty(";", 2, 0);
        faulty("-", 2, 0);
        faulty("7", 2, 0);
        faulty("if up;", 2, 0);
        faulty("print 0;;", 2, 8);
        faulty("put ;", 2, 4);
        faulty("put 0;", 2, 5);
        faulty("put 0 if;", 2, 6);
        faulty("put 0 1 -", 2, 8);
        faulty("add 0 1;", 2, 7);
        faulty("sub 0;", 2, 5);
        faulty("mul;", 2, 3);
        faulty("div 0 1 2;", 2, 9);
        faulty("div 0 1 2 3 4;", 2, 12);
        faulty("print 0 if up;", 2, 8);
        faulty("print 0;back;", 2, 12);
        faulty("print 0;back -1;", 2, 13);
        faulty("print 0;back up;", 2, 13);
        faulty("print 0;back 1 up;", 2, 15);
        faulty("print 0;back 1 if;", 2, 17);
        faulty("print 0;back 1 if if;", 2, 18);
        faulty("print 0;back 1 if on;", 2, 18);
        faulty("print 0;back 1 if up up;", 2, 21);
        faulty("on 1 if down if up;", 2, 13);
        faulty("on;", 2, 2);
    }

    /** Every card cut behind every token of it. */
    private static void theEnd() {
        due.sentence("2 it can't stand there (the end: the text's length).");
        String[] cards = {"put 1 - 2 ;", "add 1 2 3 ;", "sub 1 2 3 ;", "mul 1 2 3 ;", "div 1 2 3 4 ;", "print 1 ;",
            "on 1 if up ;", "on 1 if down ;", "on 1 ;"};
        for (String card : cards) {
            good(card, 1);
            for (int at = 1; at < card.length(); at++) {
                if (card.charAt(at) == ' ') {
                    faulty(card.substring(0, at), 2, at);
                    faulty(card.substring(0, at) + " \n ", 2, at + 3);
                }
            }
        }
    }

    private static void fortyFirstCard() {
        due.sentence("3 a 41st CARD (at its WORD).");
        String forty = "on 1;".repeat(40);
        good(forty, 40);
        for (String word : new String[] {"put", "add", "sub", "mul", "div", "print", "back", "on"}) {
            faulty(forty + "  " + word, 3, 202);
        }
        good(forty + "  ", 40);
        faulty("on 1;".repeat(41), 3, 200);
    }

    private static void numbersThatCannotBe() {
        due.sentence("4 a NUMBER that can't be: a PLACE above 19; back, on: 0, or above 40.");
        String many = "print 0;".repeat(39);
        for (String word : new String[] {"back", "on"}) {
            int place = word.length() + 1;
            faulty(word + " 0;", 4, place);
            faulty(word + " 41;", 4, place);
            faulty(word + " 4294967297;", 4, place);
            faulty(word + " 40;", 5, place);
        }
        good("on 40;" + many, 40);
        faulty(many + "back 40;", 5, 317);
        good(many + "back 39;", 40);
        faulty("on 41;" + many, 4, 3);
    }

    private static void leadsTooFar() {
        due.sentence("5 a back or on (at its NUMBER) that leads ahead of the first CARD,"
            + " or more than one behind the last (of the first such; only if there is no other FAULT).");
        faulty("back 1;", 5, 5);
        good("print 0;back 1;", 2);
        faulty("print 0;back 2;", 5, 13);
        good("print 0;print 0;back 2;", 3);
        good("on 1;", 1);
        faulty("on 2;", 5, 3);
        good("on 2;print 0;", 2);
        faulty("on 3;print 0;", 5, 3);
        faulty("print 0;on   2 if down;", 5, 13);
        faulty("on 3;back 2;", 5, 3);
        faulty("on 1;back 2;on 9;", 5, 10);
    }

    private static void textStays() {
        due.sentence("how many CARDS (5: n; 10: the TEXT stays).");
        due.sentence("10 a FAULT.");
        WheelTables x = new WheelTables();
        due.refused(x, "a fault without a text", Works.cards(x, "print 20;"), 10);
        due.refused(x, "there is no text still", x.run(), 8);
        due.done(x, "a text", Works.cards(x, "put 1 7; print 1;"), 2);
        due.refused(x, "a fault at its end", Works.cards(x, "put 1 8; print 2; print 20;"), 10);
        due.done(x, "the text stays with 10", x.run(), 1);
        due.done(x, "and prints", x.printed(0), 7);
        due.refused(x, "too many bytes", x.cards(1), 5);
        due.done(x, "the text stays with 5", x.run(), 1);
        due.refused(x, "a lead too far", Works.cards(x, "put 1 9; back 2;"), 10);
        due.done(x, "the latest run stays with 10", x.printed(0), 7);
        due.done(x, "the text stays with 10 again", x.run(), 1);
        due.done(x, "a shorter text", Works.cards(x, "print 1;"), 1);
        due.done(x, "has but one card", x.run(), 1);
        due.done(x, "of its own", x.printed(0), 0);
        due.done(x, "and one done", x.ran(3), 1);
    }

    /** A text is made of its own cards alone, whatever was read before it. */
    private static void textsOneAfterTheOther() {
        due.sentence("The first n bytes of the tape (which is empty then, but for 5) are the TEXT");
        WheelTables x = new WheelTables();
        for (int i = 0; i < 3; i++) {
            due.done(x, "leads with a lever", Works.cards(x, "on 2 if up; on 1 if down; print 7; put 7 -3;"), 4);
            due.done(x, "run", x.run(), 1);
            account(x, "leads with a lever", 2, 0, -1, 4);
            due.refused(x, "a fault", Works.cards(x, "on 1 if up; on 1 if up; on 1 if up; #"), 10);
            due.done(x, "leads without one", Works.cards(x, "on 2; print 0; on 2; print 0;"), 4);
            due.done(x, "run", x.run(), 0);
            account(x, "leads without a lever", 0, 0, -1, 2);
            due.refused(x, "a fault of the lever", Works.cards(x, "put 3 -5; on 1 if down; on 1 if"), 10);
            due.done(x, "other places", Works.cards(x, "div 1 2 3 4; on 1;"), 2);
            due.done(x, "run", x.run(), 0);
            account(x, "div by 0", 0, 2, 0, 0);
            due.done(x, "no cards", x.cards(0), 0);
            due.done(x, "run", x.run(), 0);
            account(x, "no cards", 0, 0, -1, 0);
            due.done(x, "what was put before is gone", x.place(7), 0);
        }
    }

    private static void latestFault() {
        due.sentence("Of the latest cards() with STATUS 0 or 10, what 0: the FAULT (0 without one),"
            + " 1: its place (NONE without).");
        due.sentence("NONE for others, and ahead of any.");
        WheelTables x = new WheelTables();
        for (int what = -1; what <= 2; what++) {
            due.is("fault(" + what + ") ahead of any", x.fault(what), -1);
        }
        x.cards(1);
        due.is("fault(0) behind a cards() with 5", x.fault(0), -1);
        Works.cards(x, "print 20;");
        due.is("fault(0) with 10", x.fault(0), 4);
        due.is("fault(1) with 10", x.fault(1), 6);
        due.is("fault(2)", x.fault(2), -1);
        due.is("fault(-1)", x.fault(-1), -1);
        x.cards(1);
        due.is("fault(0) with 5", x.fault(0), 4);
        due.is("fault(1) with 5", x.fault(1), 6);
        x.run();
        due.is("fault(0) behind a run", x.fault(0), 4);
        Works.cards(x, "print 19;");
        due.is("fault(0) with 0", x.fault(0), 0);
        due.is("fault(1) with 0", x.fault(1), -1);
        Works.cards(x, "#");
        due.is("a fault at place 0", x.fault(1), 0);
    }

    private static void startsAnew() {
        due.sentence("RUN: PLACES are 0, the LEVER is down; CARDS from the first on.");
        WheelTables x = ran("on 2 if down; print 5; print 0; add 0 1 0; put 1 -1; add 0 1 5;", 1);
        due.done(x, "place 0 was 0", x.printed(0), 0);
        due.done(x, "the lever is up at the end", x.place(5), -1);
        due.done(x, "the same once more", x.run(), 1);
        due.done(x, "place 0 is 0 again", x.printed(0), 0);
        due.done(x, "as many cards", x.ran(3), 5);
        due.done(x, "as many cranks", x.ran(0), 6);
        for (int place = 6; place < 20; place++) {
            due.done(x, "place " + place, x.place(place), 0);
        }
    }

    private static void reckonsToTheMost() {
        due.sentence("put; add A B C: C is A and B; sub: A less B; mul;");
        String puts = "put 0 " + MOST + "; put 1 -" + MOST + "; put 2 1; put 3 -1; put 4 999999;put 5 1000001;";
        String[] cards = {"add 0 1 9;", "add 0 6 9;", "add 1 6 9;", "sub 0 0 9;", "sub 6 0 9;", "sub 6 1 9;",
            "mul 0 2 9;", "mul 0 3 9;", "mul 1 3 9;", "mul 0 6 9;", "mul 6 1 9;", "mul 4 5 9;"};
        long most = 999999999999L;
        long[] want = {0, most, -most, 0, -most, most, most, -most, most, 0, 0, most};
        for (int i = 0; i < cards.length; i++) {
            WheelTables x = ran(puts + cards[i], 0);
            due.done(x, cards[i] + " has no alarm", x.ran(1), 0);
            due.done(x, cards[i] + " is", x.place(9), want[i]);
        }
        WheelTables x = ran("put 0 3; mul 0 0 0; add 0 0 0; sub 0 1 1;", 0);
        due.done(x, "C may be A and B: 3 squared, twice", x.place(0), 18);
        due.done(x, "C may be B", x.place(1), 18);
    }

    private static void dividesTowardsZero() {
        due.sentence("div A B C D: C is A by B, D what is left over (towards 0; of one PLACE for both: D).");
        long most = 999999999999L;
        long[][] cases = {{7, 2, 3, 1}, {-7, 2, -3, -1}, {7, -2, -3, 1}, {-7, -2, 3, -1}, {6, 3, 2, 0}, {0, -5, 0, 0},
            {2, 3, 0, 2}, {-2, 3, 0, -2}, {most, 1, most, 0}, {-most, -1, most, 0}, {1, most, 0, 1},
            {-most, most, -1, 0}, {most, 2, 499999999999L, 1}};
        for (long[] c : cases) {
            String puts = "put 0 " + c[0] + ";put 1 " + c[1] + ";";
            WheelTables x = ran(puts + "div 0 1 2 3;", 0);
            due.done(x, c[0] + " by " + c[1], x.place(2), c[2]);
            due.done(x, c[0] + " by " + c[1] + " leaves", x.place(3), c[3]);
            x = ran(puts + "div 0 1 2 2;", 0);
            due.done(x, "one place for both", x.place(2), c[3]);
            x = ran(puts + "div 0 1 1 0;", 0);
            due.done(x, "in place of the divisor", x.place(1), c[2]);
            due.done(x, "in place of what was divided", x.place(0), c[3]);
            x = ran(puts + "div 0 1 0 1;", 0);
            due.done(x, "and the other way round", x.place(0), c[2]);
            due.done(x, "what is left in place of the divisor", x.place(1), c[3]);
        }
    }

    /** How the lever stands behind the last of these cards. */
    private static void leverBehind(String cards, boolean up) {
        WheelTables x = ran("put 0 -1; put 1 1;" + cards + "on 2 if up; print 1;", up ? 0 : 1);
        due.done(x, "no alarm", x.ran(1), 0);
        x = ran("put 0 -1; put 1 1;" + cards + "on 2 if down; print 1;", up ? 1 : 0);
        due.done(x, "no alarm", x.ran(1), 0);
    }

    private static void lever() {
        due.sentence("The LEVER is up behind add, sub, mul, div if the number in C came below 0, else down.");
        leverBehind("", false);
        leverBehind("add 0 9 2;", true);
        leverBehind("add 0 1 2;", false);
        leverBehind("add 1 9 2;", false);
        leverBehind("sub 9 1 2;", true);
        leverBehind("sub 0 0 2;", false);
        leverBehind("sub 9 0 2;", false);
        leverBehind("mul 0 1 2;", true);
        leverBehind("mul 0 0 2;", false);
        leverBehind("mul 0 9 2;", false);
        leverBehind("div 0 1 2 3;", true);
        leverBehind("div 0 0 2 3;", false);
        leverBehind("put 4 2; div 0 4 2 3;", false);
        String up = "sub 9 1 2;";
        leverBehind(up + "put 2 5;", true);
        leverBehind(up + "put 2 0; back 1 if down; on 1;", true);
        account(ran("put 1 1;" + up + "print 9; on 2 if up; print 1;", 1), "nor does a print move it", 4, 0, -1, 4);
        leverBehind(up + "add 9 9 3;", false);
        leverBehind(up + "sub 9 9 3;", false);
        leverBehind(up + "mul 9 9 3;", false);
        leverBehind(up + "div 9 1 3 4;", false);
        leverBehind("put 2 -5;", false);
        // 7 by -2 is -3 and leaves 1; -7 by 2 leaves -1, and -1 by 2 is 0 and leaves -1
        leverBehind("put 5 7; put 6 -2; div 5 6 7 8;", true);
        leverBehind("put 5 -7; put 6 -2; div 5 6 7 8;", false);
    }

    private static void leads() {
        due.sentence("back n: n CARDS ahead of this one is next; on n: n behind it (1: the next one);"
            + " only when the LEVER stands so, if told.");
        WheelTables x = ran("on 1; print 0;", 1);
        account(x, "on 1 is the next one", 1, 0, -1, 2);
        x = ran("on 2; print 0; print 1;", 1);
        account(x, "on 2", 1, 0, -1, 2);
        x = ran("on 2 if up; print 0; print 1;", 2);
        account(x, "on 2 that is not done", 2, 0, -1, 3);
        x = ran("put 0 -2; put 1 1; add 0 1 0; back 1 if up; print 0;", 1);
        account(x, "back 1 once", 2 + 2 * 2 + 1 + 1, 0, -1, 2 + 2 * 2 + 1);
        x = ran("put 0 2; put 1 -1; print 0; add 0 1 0; back 2 if down;", 3);
        account(x, "back 2 twice", 2 + 3 * 3 + 2 * 2, 0, -1, 2 + 3 * 3);
        x = ran("on 39;" + "print 0;".repeat(38) + "on 1;", 0);
        account(x, "on 39 and on 1", 0, 0, -1, 2);
    }

    private static void tooGreat() {
        due.sentence("ALARM at a CARD: a number above 999,999,999,999 in size (1)");
        String puts = "put 0 " + MOST + "; put 1 -" + MOST + "; put 2 1; put 3 -1; put 4 1000000; put 9 77;";
        String[] cards = {"add 0 2 9;", "add 1 3 9;", "add 0 0 9;", "sub 0 3 9;", "sub 1 2 9;", "sub 1 0 9;",
            "mul 4 4 9;", "mul 0 0 9;", "mul 1 1 9;", "mul 0 1 9;"};
        for (String card : cards) {
            WheelTables x = ran(puts + card + "print 9;", 0);
            account(x, card, 6, 1, 6, 6);
            due.done(x, "C stays", x.place(9), 77);
        }
        // 2 to the 33 by 2 to the 31, and 2 to the 32 squared, are 0 in 64 bits
        account(ran("put 0 8589934592; put 1 2147483648; mul 0 1 9;", 0), "2 to the 64", 2, 1, 2, 2);
        account(ran("put 0 2147483648; put 1 8589934592; mul 0 1 9;", 0), "2 to the 64 again", 2, 1, 2, 2);
        account(ran("put 0 -4294967296; mul 0 0 9;", 0), "2 to the 32, squared", 1, 1, 1, 1);
        account(ran("put 0 4294967296; put 1 8589934591; mul 0 1 9;", 0), "2 to the 65 less 2 to the 32", 2, 1, 2, 2);
        String one = "put 0 999999; put 1 1000002; put 2 -1000002;";
        account(ran(one + "mul 0 1 9;", 0), "1,000,000,999,998", 3, 1, 3, 3);
        account(ran(one + "mul 2 0 9;", 0), "1,000,000,999,998 below 0", 3, 1, 3, 3);
    }

    private static void divByZero() {
        due.sentence("div by 0 (2)");
        WheelTables x = ran("put 0 5; put 2 6; put 3 7; div 0 1 2 3; print 2;", 0);
        account(x, "5 by 0", 3, 2, 3, 3);
        due.done(x, "C stays", x.place(2), 6);
        due.done(x, "D stays", x.place(3), 7);
        account(ran("div 0 0 0 0;", 0), "0 by 0", 0, 2, 0, 0);
        x = ran("put 1 1; div 0 1 2 3;", 0);
        account(x, "0 by 1", 1 + 3, 0, -1, 2);
    }

    private static void fortyFirstPrint() {
        due.sentence("a 41st print (3)");
        WheelTables x = ran("print 0;".repeat(40), 40);
        account(x, "40 prints", 40, 0, -1, 40);
        // a print and a back, forty times, and the next print
        x = ran("add 0 1 0; print 0; put 1 1; back 3;", 40);
        account(x, "41 prints", 40 * (2 + 1 + 1 + 3) + 2, 3, 1, 40 * 4 + 1);
        due.done(x, "the 40th", x.printed(39), 39);
        due.refused(x, "the 41st", x.printed(40), 8);
        due.done(x, "what was done stands", x.place(0), 40);
    }

    private static void lastCards() {
        due.sentence("a 5,001st CARD (4): all ends there.");
        // 3 cards, 1,665 rounds of 3, and 2 that end it
        String rounds = "put 0 1665; put 1 1; sub 0 1 0; on 2 if up; back 2;";
        WheelTables x = ran("on 1;" + rounds, 0);
        account(x, "5,000 cards", 2 + 2 * 1666 + 2 * 1665, 0, -1, 5000);
        x = ran("on 1;on 1;" + rounds, 0);
        account(x, "5,001 cards", 2 + 2 * 1666 + 2 * 1665, 4, 5, 5000);
        x = ran("on 1;" + rounds + "print 0;", 0);
        account(x, "a print as the 5,001st", 2 + 2 * 1666 + 2 * 1665, 4, 6, 5000);
        due.done(x, "what was done stands", x.place(0), -1);
        x = ran("on 1;" + rounds + "div 5 5 5 5;", 0);
        account(x, "a div by 0 as the 5,001st", 2 + 2 * 1666 + 2 * 1665, 4, 6, 5000);
        x = ran("on 1; back 1;", 0);
        account(x, "round and round", 2500, 4, 0, 5000);
        x = ran("on 1; on 1; back 1;", 0);
        account(x, "where it was", 2499, 4, 2, 5000);
    }

    private static void endsBehindTheLast() {
        due.sentence("It also ends behind the last CARD.");
        account(ran("print 0;", 1), "one card", 1, 0, -1, 1);
        account(ran("on 1;", 0), "on to behind the last", 0, 0, -1, 1);
        account(ran("on 3; print 0; print 0;", 0), "on over all others", 0, 0, -1, 1);
        account(ran("print 0; back 1 if up;", 1), "a back that is not done", 1, 0, -1, 2);
    }

    private static void cranks() {
        due.sentence("CRANKS of RUN: put and print 1; add, sub 2; mul 2 and LEAST turns (4) of the size of A;"
            + " div 3 and LEAST turns of the size of C; back n done: n; on: 0.");
        account(ran("put 0 1;", 0), "put", 1, 0, -1, 1);
        account(ran("print 0;", 1), "print", 1, 0, -1, 1);
        account(ran("add 0 0 0;", 0), "add", 2, 0, -1, 1);
        account(ran("sub 0 0 0;", 0), "sub", 2, 0, -1, 1);
        account(ran("mul 0 0 0;", 0), "mul of 0", 2, 0, -1, 1);
        account(ran("put 0 7; mul 1 0 0;", 0), "mul of 0 by 7", 1 + 2, 0, -1, 2);
        account(ran("put 0 7; mul 0 1 0;", 0), "mul of 7, that is 10 less 3", 1 + 2 + 4, 0, -1, 2);
        account(ran("put 0 -7; mul 0 1 0;", 0), "mul of -7", 1 + 2 + 4, 0, -1, 2);
        account(ran("put 0 -" + MOST + "; mul 0 1 0;", 0), "mul of the greatest", 1 + 2 + 2, 0, -1, 2);
        account(ran("put 0 1; put 1 4; div 0 1 2 3;", 0), "div that comes to 0", 2 + 3, 0, -1, 3);
        account(ran("put 0 -9; put 1 2; div 0 1 2 3;", 0), "div that comes to -4", 2 + 3 + 4, 0, -1, 3);
        account(ran("put 0 " + MOST + "; put 1 1; div 0 1 0 1;", 0), "div of the greatest", 2 + 3 + 2, 0, -1, 3);
        account(ran("on 1; on 1 if up; on 1 if down;", 0), "on", 0, 0, -1, 3);
        account(ran("print 0; on 1; back 2 if up;", 1), "back that is not done", 1, 0, -1, 3);
        account(ran("on 3; put 0 -1; on 4; print 0; back 2 if up; back 4; print 0; add 0 0 0; back 5 if down;", 2),
            "back 4 done, back 2 and back 5 not", 1 + 4 + 1 + 1 + 2, 0, -1, 9);
    }

    private static void account() {
        due.sentence("Of the latest RUN, what 0: CRANKS, 1: the ALARM (0 without), 2: the CARD at which it was"
            + " (from 0; NONE with STATUS 0 without), 3: CARDS done in all (5; 8: none was).");
        WheelTables x = new WheelTables();
        due.refused(x, "ahead of any", x.ran(0), 8);
        due.refused(x, "what 3 ahead of any", x.ran(3), 8);
        due.refused(x, "what 4 ahead of any", x.ran(4), 5);
        Works.cards(x, "div 0 0 0 0;");
        due.refused(x, "a text that has not run", x.ran(0), 8);
        x.run();
        account(x, "the first card is 0", 0, 2, 0, 0);
        due.refused(x, "what -1", x.ran(-1), 5);
        due.refused(x, "what 4", x.ran(4), 5);
        Works.cards(x, "print 0;");
        account(x, "another text, not run yet", 0, 2, 0, 0);
        x.run();
        account(x, "the latest run", 1, 0, -1, 1);
    }

    private static void printedOnes() {
        due.sentence("The k-th number printed by it; STATUS tells NONE from -1 (8: none such).");
        WheelTables x = new WheelTables();
        due.refused(x, "ahead of any", x.printed(0), 8);
        Works.cards(x, "put 0 -1; put 1 5; print 0; print 1;");
        due.refused(x, "a text that has not run", x.printed(0), 8);
        due.done(x, "run", x.run(), 2);
        due.refused(x, "-1", x.printed(-1), 8);
        due.done(x, "0 is the first: -1", x.printed(0), -1);
        due.done(x, "the last", x.printed(1), 5);
        due.refused(x, "one more", x.printed(2), 8);
        Works.cards(x, "print 0;");
        due.done(x, "another text, not run yet", x.printed(1), 5);
        x.run();
        due.done(x, "the latest run", x.printed(0), 0);
        due.refused(x, "has no second", x.printed(1), 8);
    }

    private static void placesBehindIt() {
        due.sentence("The number in a PLACE behind it; STATUS tells NONE from -1 (2; 8: none was).");
        WheelTables x = new WheelTables();
        due.refused(x, "ahead of any", x.place(0), 8);
        due.refused(x, "no place 20 ahead of any", x.place(20), 2);
        due.refused(x, "no place -1 ahead of any", x.place(-1), 2);
        Works.cards(x, "put 0 -1; put 19 -1;");
        due.refused(x, "a text that has not run", x.place(0), 8);
        x.run();
        due.done(x, "the first", x.place(0), -1);
        due.done(x, "the last", x.place(19), -1);
        due.done(x, "the one before it", x.place(18), 0);
        due.refused(x, "20", x.place(20), 2);
        due.refused(x, "-1", x.place(-1), 2);
    }
}
