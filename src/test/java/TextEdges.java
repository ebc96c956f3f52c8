/** Section 1: how long a text is, what its numbers may be, what may stand where, and its faults. */
final class TextEdges {
    private static final String PLACE = "1";
    private static final String FIGURES = "0123456789";

    private TextEdges() {
    }

    /** What is told of a number once the text is read. */
    private interface Look {
        int at(GuestNoes x);
    }

    static void run() {
        lengths();
        truths();
        tFirst();
        tOnce();
        guestNumbers();
        claimNumbers();
        claimCounts();
        claimsInOrder();
        guestCounts();
        hostCounts();
        hostNumbers();
        figures();
        words();
        lettersInTruths();
        lettersInGuests();
        lettersInHosts();
        lettersWhereNoMoreFit();
        blanks();
        sideBySide();
        firstLetter();
        theEnd();
        theLeast();
        cannotStandThere();
        seventhClaim();
        badNumbers();
        again();
        emptyText();
    }

    private static void says(String words) {
        Document.says(PLACE, words);
    }

    /** A text with a fault: what evening() answers, and where. */
    private static void fault(String text, int number, int place) {
        GuestNoes x = new GuestNoes();
        Check.is("evening of \"" + text + "\"", Check.read(x, text), -10 - number);
        Check.is("fault of \"" + text + "\"", x.fault(), place);
        Check.is("evening there, \"" + text + "\"", x.told(0), 0);
    }

    /** A text without one. */
    private static GuestNoes fine(String text, int guests) {
        GuestNoes x = new GuestNoes();
        Check.is("evening of \"" + text + "\"", Check.read(x, text), guests);
        Check.is("fault of \"" + text + "\"", x.fault(), Check.NONE);
        return x;
    }

    private static void lengths() {
        says("(240 letters at most)");
        String whole = "t255;" + "g009 079,079,079,079,079,079;".repeat(6) + "h003 009;".repeat(4);
        GuestNoes x = fine(whole + " ".repeat(240 - whole.length()), 6);
        Check.is("hosts of 240 letters", x.told(2), 4);
        fine(" ".repeat(235) + "t255;", 0);
        fault(" ".repeat(235) + "t256;", 2, 236);
        fault("t5" + " ".repeat(238), 1, 240);
        fault("t5" + " ".repeat(237), 1, 239);
        fault("t5;" + " ".repeat(236) + "x", 1, 239);
        fault("t5;" + " ".repeat(236) + "t", 3, 239);
        fault("t" + "0".repeat(239), 2, 1);
        fault("t5;" + " ".repeat(236) + "g", 1, 240);
        GuestNoes y = new GuestNoes();
        Check.feedAll(y, "t5;" + " ".repeat(237) + "x");
        Check.is("the 241st is no part of it", y.evening(), 0);
        Check.is("there", y.told(0), 1);
    }

    // ---- numbers

    /** All numbers of up to four figures from 0 to 1009 in one place, which is 0 to most wide. */
    private static void numbers(String ahead, String behind, int most, Look look) {
        for (int v = 0; v < 1010; v++) {
            GuestNoes x = new GuestNoes();
            int answer = Check.read(x, ahead + v + behind);
            if (v <= most) {
                Check.holds(ahead + v + behind + " has no fault", answer >= 0);
                Check.is(ahead + v + behind, look.at(x), v);
            } else {
                Check.is(ahead + v + behind, answer, -12);
                Check.is("where: " + ahead + v + behind, x.fault(), ahead.length());
            }
        }
    }

    private static void truths() {
        says("TRUE TOPICS: a SET F, 0 .. 255");
        numbers("t", ";", 255, x -> x.told(3));
    }

    private static void tFirst() {
        says("0 .. 255; first, once)");
        fault("g0 0;t5;", 1, 0);
        fault("h0 0;t5;", 1, 0);
        fault(" g0 0;t5;", 1, 1);
        fine("t5;g0 0;", 1);
    }

    private static void tOnce() {
        says("first, once)");
        fault("t5;t5;", 3, 3);
        fault("t5;g0 0;t5;", 3, 8);
        fault("t5;h0 0;t5;", 3, 8);
        fault("t5;t", 3, 3);
    }

    private static void guestNumbers() {
        says("PRIDE P, 0 .. 9");
        numbers("t0;g", " 0;", 9, x -> x.guest(0, 0));
    }

    private static void claimNumbers() {
        says("0 .. 79: the TOPIC, 0 .. 7, ten times, and how BOLD it is, 0 .. 9)");
        numbers("t0;g0 ", ";", 79, x -> 10 * x.claim(0, 0, 0) + x.claim(0, 0, 1));
        numbers("t0;g0 1,", ";", 79, x -> 10 * x.claim(0, 1, 0) + x.claim(0, 1, 1));
        numbers("t0;g0 1,2,3,4,5,", ";", 79, x -> 10 * x.claim(0, 5, 0) + x.claim(0, 5, 1));
        for (int v = 0; v < 80; v++) {
            GuestNoes x = Check.evening("t0;g0 " + v + ";");
            Check.holds("topic of " + v, x.claim(0, 0, 0) >= 0 && x.claim(0, 0, 0) <= 7);
            Check.holds("bold of " + v, x.claim(0, 0, 1) >= 0 && x.claim(0, 0, 1) <= 9);
        }
    }

    private static void claimCounts() {
        says("1 to 6 numbers");
        fault("t0;g0;", 1, 5);
        fault("t0;g0 ;", 1, 6);
        for (int n = 1; n <= 6; n++) {
            String text = "t0;g0 " + "1,2,3,4,5,6".substring(0, 2 * n - 1) + ";";
            GuestNoes x = fine(text, 1);
            Check.is("claims of " + text, x.guest(0, 1), n);
            Check.is("none behind them in " + text, n < 6 ? x.claim(0, n, 0) : Check.NONE, Check.NONE);
        }
        fault("t0;g0 1,2,3,4,5,6,7;", 1, 17);
        fault("t0;g0 1,2,3,4,5,6,7,8;", 1, 17);
    }

    private static void claimsInOrder() {
        says("CLAIMS in the order in which they will be said");
        GuestNoes x = Check.evening("t0;g0 70,60,50,40,30,20;");
        for (int k = 0; k < 6; k++) {
            Check.is("said", x.say(0), k);
            Check.is("its topic", x.claim(0, k, 0), 7 - k);
        }
    }

    private static void guestCounts() {
        says("(6 GUESTS at most");
        for (int n = 0; n <= 6; n++) {
            fine("t0;" + "g0 0;".repeat(n), n);
            fine("t0;h0 0;" + "g0 0;".repeat(n) + "h0 0;", n);
        }
        fault("t0;" + "g0 0;".repeat(7), 3, 33);
        fault("t0;" + "g0 0;".repeat(6) + "h0 0;g0 0;", 3, 38);
    }

    private static void hostCounts() {
        says("(4 HOSTS at most");
        for (int n = 0; n <= 4; n++) {
            Check.is("hosts", fine("t0;" + "h0 0;".repeat(n), 0).told(2), n);
        }
        fault("t0;" + "h0 0;".repeat(5), 3, 23);
        fault("t0;" + "h0 0;".repeat(4) + "g0 0;h0 0;", 3, 28);
    }

    private static void hostNumbers() {
        says("KIND K, 0 .. 3; can say NO N times, 0 .. 9)");
        numbers("t0;h", " 0;", 3, x -> x.host(0, 0));
        numbers("t0;h0 ", ";", 9, x -> x.host(0, 1));
        numbers("t0;h0 ", ";", 9, x -> x.host(0, 2));
    }

    private static void figures() {
        says("NUMBERS have one to three figures");
        String[][] places = {{"t", ";"}, {"t0;g", " 0;"}, {"t0;g0 ", ";"}, {"t0;g0 0,", ";"}, {"t0;h", " 0;"}, {"t0;h0 ", ";"}};
        for (String[] place : places) {
            for (int n = 1; n <= 3; n++) {
                String text = place[0] + "0".repeat(n) + place[1];
                Check.holds(text, Check.read(new GuestNoes(), text) >= 0);
                text = place[0] + "0".repeat(n - 1) + "3" + place[1];
                Check.holds(text, Check.read(new GuestNoes(), text) >= 0);
            }
            for (int n = 4; n <= 24; n++) {
                fault(place[0] + "0".repeat(n) + place[1], 2, place[0].length());
                fault(place[0] + "0".repeat(n - 1) + "3" + place[1], 2, place[0].length());
            }
            // Numbers that would be 0 again where somebody counts in 32 or 64 bits.
            fault(place[0] + "4294967296" + place[1], 2, place[0].length());
            fault(place[0] + "18446744073709551616" + place[1], 2, place[0].length());
        }
        Check.is("007", Check.evening("t007;").told(3), 7);
        Check.is("099 is not read by eights", Check.evening("t099;").told(3), 99);
    }

    // ---- letters

    private static void words() {
        says("a word is one letter");
        fault("tt5;", 1, 1);
        fault("true 5;", 1, 1);
        fault("t5;gg0 0;", 1, 4);
        fault("t5;;", 1, 3);
        fault("t5;g0 0,,0;", 1, 8);
        fine("t5;g0 0;h0 0;", 1);
    }

    /**
     * Each of the 256 letters behind a text. Of those that may come, 'ends' make it whole; behind the others
     * it is the end that has the fault. A figure that makes a number too great has 2 at its first;
     * what is one too many has 3; all others have 1.
     */
    private static void letters(String ahead, String goOn, String ends, String tooGreat, int numberAt, String tooMany) {
        for (int c = 0; c < 256; c++) {
            String text = ahead + (char) c;
            GuestNoes x = new GuestNoes();
            int answer = Check.read(x, text);
            String what = "behind \"" + ahead + "\" letter " + c;
            if (ends.indexOf(c) >= 0) {
                Check.holds(what, answer >= 0);
                Check.is(what + ": place", x.fault(), Check.NONE);
            } else if (goOn.indexOf(c) >= 0) {
                Check.is(what, answer, -11);
                Check.is(what + ": place", x.fault(), text.length());
            } else if (tooGreat.indexOf(c) >= 0) {
                Check.is(what, answer, -12);
                Check.is(what + ": place", x.fault(), numberAt);
            } else {
                Check.is(what, answer, tooMany.indexOf(c) >= 0 ? -13 : -11);
                Check.is(what + ": place", x.fault(), ahead.length());
            }
        }
    }

    private static void lettersInTruths() {
        says("1 it cannot stand there (a letter that is no word, another word first than 't'");
        letters("", "t", " ", "", 0, "");
        letters("t", " " + FIGURES, "", "", 0, "");
        letters("t5", " " + FIGURES, ";", "", 0, "");
        letters("t25", " 012345", ";", "6789", 1, "");
        letters("t5 ", " ", ";", "", 0, "");
        letters("t5;", "gh", " ", "", 0, "t");
        letters("t005", " ", ";", FIGURES, 1, "");
    }

    private static void lettersInGuests() {
        says("1 it cannot stand there (a letter that is no word");
        letters("t5;g", " " + FIGURES, "", "", 0, "");
        letters("t5;g1", " ", "", FIGURES, 4, "");
        letters("t5;g0", " " + FIGURES, "", "", 0, "");
        letters("t5;g1 ", " " + FIGURES, "", "", 0, "");
        letters("t5;g1 2", " ," + FIGURES, ";", "", 0, "");
        letters("t5;g1 8", " ,", ";", FIGURES, 6, "");
        letters("t5;g1 2 ", " ,", ";", "", 0, "");
        letters("t5;g1 2,", " " + FIGURES, "", "", 0, "");
        letters("t5;g1 2,3", " ," + FIGURES, ";", "", 0, "");
        letters("t5;g1 2;", "gh", " ", "", 0, "t");
    }

    private static void lettersInHosts() {
        says("1 it cannot stand there");
        letters("t5;h", " 0123", "", "456789", 4, "");
        letters("t5;h1", " ", "", FIGURES, 4, "");
        letters("t5;h1 ", " " + FIGURES, "", "", 0, "");
        letters("t5;h1 2", " ", ";", FIGURES, 6, "");
        letters("t5;h1 2 ", " ", ";", "", 0, "");
        letters("t5;h1 2;", "gh", " ", "", 0, "t");
    }

    private static void lettersWhereNoMoreFit() {
        says("a seventh C: at its ','). 2 a NUMBER of four figures or more, or out of its bounds (at its first). "
            + "3 't' again, a seventh 'g', a fifth 'h' (at it).");
        letters("t5;g1 2,3,4,5,6,7", " " + FIGURES, ";", "", 0, "");
        letters("t5;g1 2,3,4,5,6,7 ", " ", ";", "", 0, "");
        letters("t5;" + "g1 2;".repeat(6), "h", " ", "", 0, "tg");
        letters("t5;" + "h1 2;".repeat(4), "g", " ", "", 0, "th");
        letters("t5;" + "g1 2;".repeat(6) + "h1 2;".repeat(4), "", " ", "", 0, "tgh");
    }

    private static void blanks() {
        says("blanks (32) may stand anywhere but within NUMBERS");
        String text = "t5;g3 5,28,11;h0 1;";
        String due = Check.state(Check.evening(text));
        for (int at = 0; at <= text.length(); at++) {
            boolean within = at > 0 && at < text.length() && FIGURES.indexOf(text.charAt(at - 1)) >= 0 && FIGURES.indexOf(text.charAt(at)) >= 0;
            String one = text.substring(0, at) + " " + text.substring(at);
            String many = text.substring(0, at) + "     " + text.substring(at);
            if (within) {
                fault(one, 1, at + 1);
                fault(many, 1, at + 5);
            } else {
                Check.same(one, Check.state(fine(one, 1)), due);
                Check.same(many, Check.state(fine(many, 1)), due);
            }
        }
        for (char c : new char[] {0, 9, 10, 13, 31, 33, 160}) {
            fault("t5;" + c, 1, 3);
            fault("t" + c + "5;", 1, 1);
        }
    }

    private static void sideBySide() {
        says("two NUMBERS side by side need one");
        fault("t0;g12;", 2, 4);
        fault("t0;g01;", 1, 6);
        fault("t0;h12;", 2, 4);
        fault("t0;h01;", 1, 6);
        GuestNoes x = fine("t0;g1 2;h1 2;", 1);
        Check.is("pride", x.guest(0, 0), 1);
        Check.is("claim", x.claim(0, 0, 1), 2);
        Check.is("kind", x.host(0, 0), 1);
        Check.is("noes", x.host(0, 1), 2);
    }

    // ---- faults

    private static void firstLetter() {
        says("FAULTS, at the first letter that has one");
        fault("t5;t256;", 3, 3);
        fault("t256;t5;", 2, 1);
        fault("t5;x;t5;g99 0;", 1, 3);
        fault("t5;g99 0;x", 2, 4);
        fault("t5;g0 0;t5;x", 3, 8);
        fault("t5;g0 99,x", 2, 6);
        fault("t5;h9 x", 2, 4);
        fault("t5;h0 99;h0 0;h0 0;h0 0;h0 0;", 2, 6);
        fault("t1000x", 2, 1);
        fault("t 1000", 2, 2);
    }

    private static void theEnd() {
        says("(the end at the text's length)");
        String text = "t5;g3 5,28;h0 1;";
        String whole = "3 11 16";
        for (int n = 1; n < text.length(); n++) {
            boolean ends = (" " + whole + " ").contains(" " + n + " ");
            if (ends) {
                fine(text.substring(0, n), n >= 11 ? 1 : 0);
            } else {
                fault(text.substring(0, n), 1, n);
                fault(text.substring(0, n) + "   ", 1, n + 3);
            }
        }
    }

    private static void theLeast() {
        says("of these the least");
        fault("t5 0000;", 1, 3);
        fault("0000", 1, 0);
        fault("t5;9999", 1, 3);
        fault("t5;g0 0 999;", 1, 8);
        fault("t5;h0 0 0000", 1, 8);
        fault("t5t", 1, 2);
        fault("t5;g0 t", 1, 6);
        fault("t5;g0 0,t", 1, 8);
        fault("t0;" + "g0 0;".repeat(5) + "g0 0g", 1, 32);
        fault("t0;" + "h0 0;".repeat(3) + "h0 0h", 1, 22);
    }

    private static void cannotStandThere() {
        says("another word first than 't'");
        for (String first : new String[] {"g", "h", ";", ",", "0", "9", "x", "T"}) {
            fault(first, 1, 0);
            fault("  " + first, 1, 2);
            fault(first + "t5;", 1, 0);
        }
    }

    private static void seventhClaim() {
        says("a seventh C: at its ','");
        fault("t5;g0 1,2,3,4,5,6,7;", 1, 17);
        fault("t5;g0 1,2,3,4,5,6 , 7;", 1, 18);
        fault("t5;g0 1,2,3,4,5,6,999;", 1, 17);
        fault("t5;g0 1,2,3,4,5,6,", 1, 17);
        fault("t5;g0 1,2,3,4,5,6,;", 1, 17);
        fault("t5;g0 11,22,33,44,55,66,77;", 1, 23);
        fault("t5;g0 0;g0 1,2,3,4,5,6,7;", 1, 22);
        fine("t5;g0 1,2,3,4,5,6;g0 7;", 2);
    }

    private static void badNumbers() {
        says("2 a NUMBER of four figures or more, or out of its bounds (at its first)");
        fault("t256;", 2, 1);
        fault("t  256;", 2, 3);
        fault("t0005;", 2, 1);
        fault("t0;g10 0;", 2, 4);
        fault("t0;g0 80;", 2, 6);
        fault("t0;g0  80;", 2, 7);
        fault("t0;g0 0,0, 80;", 2, 11);
        fault("t0;h4 0;", 2, 4);
        fault("t0;h0 10;", 2, 6);
        fault("t0;h0   0010;", 2, 8);
        fault("t0;g10", 2, 4);
        fault("t256", 2, 1);
    }

    private static void again() {
        says("3 't' again, a seventh 'g', a fifth 'h' (at it)");
        fault("t5; t5;", 3, 4);
        fault("t0;" + "g0 0;".repeat(6) + "  g", 3, 35);
        fault("t0;" + "g0 0;".repeat(6) + "g99", 3, 33);
        fault("t0;" + "h0 0;".repeat(4) + "  h", 3, 25);
        fault("t0;" + "h0 0;".repeat(4) + "h9 9", 3, 23);
        fault("t0;" + "g0 0;h0 0;".repeat(4) + "g0 0;g0 0;h0 0;", 3, 53);
        fault("t0;" + "g0 0;h0 0;".repeat(4) + "g0 0;g0 0;g0 0;", 3, 53);
        fault("t0;" + "g0 0;h0 0;".repeat(4) + "g0 0;g0 0;t0;", 3, 53);
    }

    private static void emptyText() {
        says("An empty text: no EVENING.");
        GuestNoes x = fine("", 0);
        Check.is("of a new one", x.told(0), 0);
        GuestNoes y = Check.moor();
        Check.is("after an evening", y.evening(), 0);
        Check.is("no evening", y.told(0), 0);
        Check.is("no guests", y.told(1), 0);
        Check.is("no hosts", y.told(2), 0);
        Check.is("nothing is true", y.told(3), 0);
        Check.is("no fault", y.fault(), Check.NONE);
        Check.is("no hour can pass", y.hour(1), Check.NOT);
        Check.is("after a fault", Check.read(y, "x"), -11);
        Check.is("it is empty then", y.evening(), 0);
        Check.is("no fault", y.fault(), Check.NONE);
        Check.is("an evening again", Check.read(y, "t0;"), 0);
        Check.is("there", y.told(0), 1);
        // As blanks may stand anywhere, a text of them is read as one without a letter.
        Check.is("blanks alone", Check.read(y, "  "), 0);
        Check.is("no evening", y.told(0), 0);
    }
}
