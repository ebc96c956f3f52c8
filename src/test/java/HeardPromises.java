/** Promises 25 to 33 at their bounds. */
final class HeardPromises {
    private static final String TWO = "t0;g0 1,12;g0 3,74;h0 1;h1 2;";

    private HeardPromises() {
    }

    static void run() {
        hearOutside();
        hearFull();
        couldBe();
        askNone();
        writeUnknown();
        writeFull();
        judgeNone();
        tearing();
        seedBounds();
        keepUnknown();
        keepForgets();
        goBackForgets();
        goBackNot();
    }

    private static void hearOutside() {
        Document.says("Promise 25", "HEARD (a TOPIC, 0 .. 7): how much. OUTSIDE");
        for (int topic = 0; topic < 8; topic++) {
            GuestNoes x = Check.evening(TWO);
            Check.is("claims " + topic, x.hear(topic, true), 1);
            Check.is("does not claim " + topic, x.hear(topic, false), 2);
            Check.is("what could be", x.couldBe(), 0);
        }
        GuestNoes y = Check.evening(TWO);
        Check.bounds("hear", 0, 7, topic -> y.hear(topic, false));
        Check.is("two were heard", y.told(16), 2);
        Check.is("hear(8, true)", y.hear(8, true), Check.OUTSIDE);
        Check.is("without an evening", new GuestNoes().hear(7, true), 1);
    }

    private static void hearFull() {
        Document.says("Promise 25", "FULL (6).");
        GuestNoes x = Check.evening(TWO);
        for (int n = 1; n <= 6; n++) {
            Check.is("heard " + n, x.hear(0, true), n);
        }
        Check.is("a seventh", x.hear(0, false), Check.FULL);
        Check.is("outside first", x.hear(8, false), Check.OUTSIDE);
        Check.is("six", x.told(16), 6);
        Check.is("the seventh is not heard", x.couldBe(), 3);
        x.tear();
        Check.is("there is room again", x.hear(0, true), 1);
    }

    private static void couldBe() {
        Document.says("Promise 26", "COULD BE.");
        Check.is("no evening", new GuestNoes().couldBe(), 0);
        Check.is("no guests", Check.evening("t0;").couldBe(), 0);
        Check.is("six", Check.evening("t0;" + "g0 0;".repeat(6)).couldBe(), 63);
        GuestNoes x = new GuestNoes();
        x.hear(0, true);
        Check.is("heard, no evening", x.couldBe(), 0);
        Check.read(x, TWO);
        Check.is("a text forgets it", x.couldBe(), 3);
    }

    private static void askNone() {
        Document.says("Promise 27", "ASK; NONE.");
        Check.is("no evening", new GuestNoes().ask(), Check.NONE);
        Check.is("one guest", Check.evening("t0;g0 0;").ask(), Check.NONE);
        Check.is("six alike", Check.evening("t0;" + "g0 0;".repeat(6)).ask(), Check.NONE);
        Check.is("the first topic", Check.evening("t0;" + "g0 0;".repeat(5) + "g0 10;").ask(), 0);
        Check.is("the last topic", Check.evening("t0;" + "g0 0;".repeat(5) + "g0 0,70;").ask(), 7);
        GuestNoes x = Check.evening(TWO);
        Check.is("1 ahead of 7", x.ask(), 1);
        x.hear(1, true);
        Check.is("one is left", x.ask(), Check.NONE);
        x.hear(1, false);
        Check.is("nobody is left", x.ask(), Check.NONE);
    }

    private static void writeUnknown() {
        Document.says("Promise 28", "An entry behind THE BOOK (a HOST, or NONE): how many. UNKNOWN");
        GuestNoes x = Check.evening(TWO);
        Check.known("g", 2, g -> x.write(g, 0));
        Check.known("g, not told", 2, g -> x.write(g, -1));
        Check.known("h", 2, h -> x.write(1, h));
        Check.is("write(-1, -1)", x.write(-1, -1), Check.UNKNOWN);
        Check.is("write(-1, 0)", x.write(-1, 0), Check.UNKNOWN);
        Check.is("write(0, -2)", x.write(0, -2), Check.UNKNOWN);
        Check.is("not told", x.write(0, -1), 7);
        Check.is("no hosts", Check.evening("t0;g0 1;").write(0, 0), Check.UNKNOWN);
        Check.is("no hosts, not told", Check.evening("t0;g0 1;").write(0, -1), 1);
    }

    private static void writeFull() {
        Document.says("Promise 28", "FULL (20).");
        GuestNoes x = Check.evening(TWO);
        for (int n = 1; n <= 20; n++) {
            Check.is("entry " + n, x.write(n % 2, -1), n);
        }
        Check.is("one more", x.write(0, 0), Check.FULL);
        Check.is("unknown first", x.write(2, 0), Check.UNKNOWN);
        Check.is("unknown first", x.write(0, 2), Check.UNKNOWN);
        Check.is("twenty", x.told(17), 20);
        Check.is("it is not written", x.judge(), Check.NONE);
        x.tear();
        Check.is("there is room again", x.write(0, 0), 1);
    }

    private static void judgeNone() {
        Document.says("Promise 29", "FALSE; NONE.");
        Check.is("no evening", new GuestNoes().judge(), Check.NONE);
        GuestNoes x = Check.evening(TWO);
        Check.is("no book", x.judge(), Check.NONE);
        x.write(0, -1);
        Check.is("so it is", x.judge(), Check.NONE);
        x.write(1, 1);
        Check.is("the second", x.judge(), 1);
        x.hour(1);
        x.no(1, 1);
        Check.is("so it is now", x.judge(), Check.NONE);
        x.share(0, 1);
        Check.is("the first", x.judge(), 0);
        x.evening();
        Check.is("no evening any more", x.judge(), Check.NONE);
    }

    private static void tearing() {
        Document.says("Promise 30", "Nothing HEARD, no BOOK: how much both had.");
        GuestNoes x = Check.evening(TWO);
        Check.is("nothing", x.tear(), 0);
        for (int i = 0; i < 6; i++) {
            x.hear(1, true);
        }
        for (int i = 0; i < 20; i++) {
            x.write(0, 0);
        }
        Check.is("all that can be", x.tear(), 26);
        Check.is("heard", x.told(16), 0);
        Check.is("book", x.told(17), 0);
        Check.is("all could be", x.couldBe(), 3);
        Check.is("nothing is false", x.judge(), Check.NONE);
        Check.is("nothing again", x.tear(), 0);
        Check.is("no evening", new GuestNoes().tear(), 0);
    }

    private static void seedBounds() {
        Document.says("Promise 31", "THE SEED becomes v (0 .. 2147483647): what it was. OUTSIDE.");
        GuestNoes x = new GuestNoes();
        Check.bounds("seed", 0, 2147483647, x::seed);
        Check.is("what is refused leaves it", x.seed(0), 2147483647);
        Check.is("the least", x.seed(2147483646), 0);
        Check.is("less than the most", x.seed(1), 2147483646);
    }

    private static void keepUnknown() {
        Document.says("Promise 32", "IMAGE i becomes what is so (nothing can be undone then): 1. UNKNOWN.");
        GuestNoes x = Check.evening(TWO);
        x.hour(3);
        Check.is("keep(2)", x.keep(2), Check.UNKNOWN);
        Check.is("keep(-1)", x.keep(-1), Check.UNKNOWN);
        Check.is("what is refused leaves what can be undone", x.told(18), 3);
        Check.known("keep", 2, x::keep);
        Check.is("keep(0)", x.keep(0), 1);
        Check.is("keep(1)", x.keep(1), 1);
        Check.is("no evening", new GuestNoes().keep(0), 1);
    }

    private static void keepForgets() {
        Document.says("Promise 32", "(nothing can be undone then)");
        for (int i = 0; i < 2; i++) {
            GuestNoes x = Check.evening(TWO);
            x.hour(3);
            x.keep(i);
            Check.is("none", x.told(18), 0);
            Check.is("undo", x.undo(1), Check.NOT);
            x.hour(1);
            Check.is("what came since", x.undo(1), 3);
            x.hour(4);
            x.keep(i);
            x.hour(1);
            x.goBack(i);
            Check.is("kept anew", x.told(5), 7);
        }
    }

    private static void goBackForgets() {
        Document.says("Promise 33", "What is so becomes IMAGE i (nothing can be undone then): 1. UNKNOWN");
        GuestNoes x = Check.evening(TWO);
        x.hour(1);
        x.keep(0);
        x.hour(2);
        x.keep(1);
        x.hour(4);
        Check.is("goBack(2)", x.goBack(2), Check.UNKNOWN);
        Check.is("goBack(-1)", x.goBack(-1), Check.UNKNOWN);
        Check.is("what is refused leaves what can be undone", x.told(18), 4);
        Check.is("to image 0", x.goBack(0), 1);
        Check.is("hours", x.told(5), 1);
        Check.is("undo", x.undo(1), Check.NOT);
        Check.is("to image 1", x.goBack(1), 1);
        Check.is("hours", x.told(5), 3);
        Check.is("none", x.told(18), 0);
        Check.is("to image 1 again", x.goBack(1), 1);
        Check.known("goBack", 2, x::goBack);
    }

    private static void goBackNot() {
        Document.says("Promise 33", "NOT: it was not kept.");
        GuestNoes x = Check.evening(TWO);
        x.hour(2);
        Check.is("image 0", x.goBack(0), Check.NOT);
        Check.is("image 1", x.goBack(1), Check.NOT);
        Check.is("what is refused leaves what can be undone", x.told(18), 2);
        x.keep(1);
        Check.is("the other was not", x.goBack(0), Check.NOT);
        Check.is("this was", x.goBack(1), 1);
        Check.read(x, "x");
        Check.is("a fault leaves it", x.goBack(1), 1);
        Check.read(x, TWO);
        Check.is("a text does not", x.goBack(1), Check.NOT);
        x.keep(0);
        x.evening();
        Check.is("an empty text does not", x.goBack(0), Check.NOT);
    }
}
