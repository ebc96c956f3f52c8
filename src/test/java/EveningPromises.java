/** Promises 1 to 8 at their bounds. */
final class EveningPromises {
    private static final String ALL = "t0;" + "g9 0,1,2,3,4,5;".repeat(6) + "h3 9;".repeat(4);

    private EveningPromises() {
    }

    static void run() {
        noEvening();
        eachLetter();
        lettersOutside();
        lettersFull();
        textIsEmptyThen();
        eveningBegins();
        eveningsInARow();
        seedStays();
        guestsAnswered();
        faultLeavesAll();
        faultPlace();
        faultNone();
        toldOfNone();
        toldOfEach();
        toldWithoutGuests();
        toldOutside();
        guestNone();
        guestRefusals();
        claimNone();
        claimRefusals();
        hostNoes();
        hostRefusals();
    }

    private static void noEvening() {
        Document.says("Promise 1", "No EVENING.");
        GuestNoes x = new GuestNoes();
        Check.is("there", x.told(0), 0);
        for (int what = 1; what <= 18; what++) {
            Check.is("told(" + what + ")", x.told(what), what == 13 ? 255 : what == 15 ? Check.NONE : 0);
        }
        Check.is("hour", x.hour(1), Check.NOT);
        Check.is("drift", x.drift(1), Check.NOT);
        Check.is("anew", x.anew(), Check.NOT);
        Check.is("undo", x.undo(1), Check.NOT);
        Check.is("image 0", x.goBack(0), Check.NOT);
        Check.is("image 1", x.goBack(1), Check.NOT);
        Check.is("seed", x.seed(0), 0);
        Check.is("fault", x.fault(), Check.NONE);
    }

    private static void eachLetter() {
        Document.says("Promise 2", "A letter (0 .. 255) comes behind THE TEXT: how many it has.");
        GuestNoes low = new GuestNoes();
        GuestNoes high = new GuestNoes();
        for (int n = 0; n < 240; n++) {
            Check.is("feed(" + n + ")", low.feed(n), n + 1);
            Check.is("feed(" + (255 - n) + ")", high.feed(255 - n), n + 1);
        }
        Check.is("letters", low.told(4), 240);
    }

    private static void lettersOutside() {
        Document.says("Promise 2", "OUTSIDE, FULL (240).");
        GuestNoes x = new GuestNoes();
        Check.bounds("feed", 0, 255, x::feed);
        Check.is("what was refused is no letter", x.told(4), 2);
    }

    private static void lettersFull() {
        Document.says("Promise 2", "FULL (240).");
        GuestNoes x = new GuestNoes();
        for (int n = 1; n <= 240; n++) {
            Check.is("letter " + n, x.feed(' '), n);
        }
        Check.is("letter 241", x.feed(' '), Check.FULL);
        Check.is("letter 241 again", x.feed('t'), Check.FULL);
        Check.is("letters", x.told(4), 240);
        x.evening();
        Check.is("there is room then", x.feed('t'), 1);
    }

    private static void textIsEmptyThen() {
        Document.says("Promise 3", "THE TEXT (it is empty then, with a FAULT, too) becomes THE EVENING");
        GuestNoes x = Check.moor();
        Check.is("without a fault", x.told(4), 0);
        Check.is("a fault", Check.read(x, "t5;g"), -11);
        Check.is("with a fault", x.told(4), 0);
        Check.is("the next letter is the first", x.feed('t'), 1);
        Check.feedAll(x, "6;");
        Check.is("nothing is left of the text ahead of it", x.evening(), 0);
        Check.is("its truths", x.told(3), 6);
    }

    /** Busy in all ways, with images, what is heard and a book. */
    private static GuestNoes busy() {
        GuestNoes x = Check.moor();
        x.seed(99);
        x.hear(0, true);
        x.write(0, -1);
        x.hour(2);
        x.no(1, 0);
        x.bed(1);
        x.keep(0);
        x.keep(1);
        x.anew();
        x.hour(1);
        x.no(1, 2);
        x.bed(3);
        return x;
    }

    private static void eveningBegins() {
        Document.says("Promise 3", "(HOUR 0, EVENING 0, nothing SAID, nobody TOLD, all up, GLAD 0, INSULTS 0; nothing HEARD, no BOOK; "
            + "IMAGES, what could be undone are gone; THE SEED stays)");
        GuestNoes x = busy();
        Check.is("another text", Check.read(x, "t0;g0 1;g0 2;g0 3;h0 4;"), 3);
        int[] due = {1, 3, 1, 0, 0, 0, 0, 0, 0, 7, 0, 0, 0, 254, 0, -1, 0, 0, 0};
        for (int what = 0; what <= 18; what++) {
            Check.is("told(" + what + ")", x.told(what), due[what]);
        }
        for (int g = 0; g < 3; g++) {
            Check.is("said", x.guest(g, 2), 0);
            Check.is("told by", x.guest(g, 3), Check.NONE);
            Check.is("told at", x.guest(g, 4), Check.NONE);
        }
        Check.is("all noes", x.host(0, 2), 4);
        Check.is("image 0 is gone", x.goBack(0), Check.NOT);
        Check.is("image 1 is gone", x.goBack(1), Check.NOT);
        Check.is("nothing can be undone", x.undo(1), Check.NOT);
        Check.is("all could be", x.couldBe(), 7);
        Check.is("nothing is false", x.judge(), Check.NONE);
        GuestNoes empty = busy();
        Check.is("an empty text", empty.evening(), 0);
        for (int what = 0; what <= 18; what++) {
            Check.is("empty: told(" + what + ")", empty.told(what), what == 13 ? 255 : what == 15 ? Check.NONE : 0);
        }
        Check.is("empty: image 0 is gone", empty.goBack(0), Check.NOT);
        Check.is("empty: image 1 is gone", empty.goBack(1), Check.NOT);
    }

    /** A text must leave nothing to the next ones, of which each tells of less. */
    private static void eveningsInARow() {
        Document.says("Promise 3", "becomes THE EVENING (HOUR 0, EVENING 0, nothing SAID, nobody TOLD");
        GuestNoes x = Check.evening(ALL);
        Check.is("plan of six", x.plan(-1), 54);
        x.hour(9);
        x.no(3, 5);
        Check.read(x, "t255;g9 0,9,70;g9 9,79;h3 9;h0 9;");
        Check.is("plan of two", x.plan(-1), 39);
        Check.is("a third", Check.read(x, "t1;g1 15;g0 12;h1 1;"), 2);
        Check.is("its hosts", x.told(2), 1);
        Check.is("its truths", x.told(3), 1);
        Check.is("claims of 0", x.guest(0, 1), 1);
        Check.is("no other claim", x.claim(0, 1, 0), Check.NONE);
        Check.is("what both claim", x.agree(0, 1), 2);
        Check.is("nobody's", x.told(13), 253);
        Check.is("plan", x.plan(-1), 2);
        Check.is("plan of 0", x.plan(0), 0);
        Check.is("plan of 1", x.plan(1), Check.NONE);
        Check.is("a host of the first text", x.host(3, 0), Check.UNKNOWN);
        Check.is("a guest of the first text", x.guest(5, 0), Check.UNKNOWN);
        Check.is("a fourth", Check.read(x, "t2;g0 3;"), 1);
        Check.is("no hosts", x.told(2), 0);
        Check.is("nothing to plan", x.plan(-1), 0);
        Check.is("none", x.evening(), 0);
        Check.is("no truths", x.told(3), 0);
        Check.is("no hosts", x.told(2), 0);
        Check.is("none again", x.evening(), 0);
        Check.is("no truths", x.told(3), 0);
    }

    private static void seedStays() {
        Document.says("Promise 3", "THE SEED stays)");
        GuestNoes x = busy();
        Check.read(x, "t0;");
        Check.is("behind a text", x.seed(2147483647), 99);
        x.evening();
        Check.is("behind an empty one", x.seed(5), 2147483647);
        Check.read(x, "x");
        Check.is("behind a fault", x.seed(0), 5);
    }

    private static void guestsAnswered() {
        Document.says("Promise 3", "how many GUESTS; -10 less the number of its FAULT");
        for (int n = 0; n <= 6; n++) {
            Check.is(n + " guests", Check.read(new GuestNoes(), "t0;" + "g0 0;".repeat(n)), n);
        }
        Check.is("fault 1", Check.read(new GuestNoes(), "x"), -11);
        Check.is("fault 2", Check.read(new GuestNoes(), "t999;"), -12);
        Check.is("fault 3", Check.read(new GuestNoes(), "t0;t0;"), -13);
    }

    private static void faultLeavesAll() {
        Document.says("Promise 3", "-10 less the number of its FAULT (all is as it was).");
        String[] texts = {"x", "t999;", "t0;t0;", "t255;g9 9;h3 3", ALL + "g", "t1;g1 1,1;h1 1;x"};
        for (String text : texts) {
            GuestNoes x = busy();
            String was = Check.state(x);
            Check.holds("a fault", Check.read(x, text) < -10);
            // The last word of a state is the fault's place.
            String now = Check.state(x);
            Check.same(text, now.substring(0, now.lastIndexOf(' ')), was.substring(0, was.lastIndexOf(' ')));
            Check.is("a claim", x.claim(2, 3, 1), 3);
            Check.is("no other claim", x.claim(3, 1, 1), Check.NONE);
            Check.is("undone", x.undo(4), 2);
            Check.is("image 0", x.goBack(0), 1);
            Check.is("as kept", x.told(10), 1);
            Check.is("image 1", x.goBack(1), 1);
        }
    }

    private static void faultPlace() {
        Document.says("Promise 4", "The letter of the FAULT of the latest evening(); NONE.");
        GuestNoes x = new GuestNoes();
        Check.read(x, "t5;x");
        Check.is("the first", x.fault(), 3);
        Check.read(x, "t999;");
        Check.is("the latest", x.fault(), 1);
        Check.feedAll(x, "t5;yy");
        Check.is("feeding is no evening", x.fault(), 1);
        x.evening();
        Check.is("then it is read", x.fault(), 3);
        x.hour(1);
        x.anew();
        x.goBack(0);
        Check.is("it stays", x.fault(), 3);
    }

    private static void faultNone() {
        Document.says("Promise 4", "latest evening(); NONE.");
        GuestNoes x = new GuestNoes();
        Check.is("no evening yet", x.fault(), Check.NONE);
        Check.read(x, "x");
        Check.is("the first letter is 0", x.fault(), 0);
        Check.read(x, "t0;");
        Check.is("without a fault", x.fault(), Check.NONE);
        Check.read(x, "x");
        x.evening();
        Check.is("an empty text", x.fault(), Check.NONE);
    }

    private static void toldOfNone() {
        Document.says("Promise 5", "0 1 there is an EVENING, 0 not, 1 GUESTS, 2 HOSTS, 3 TRUE TOPICS, 4 letters of THE TEXT, "
            + "5 HOURS, 6 EVENINGS, 7 GLAD, 8 INSULTS");
        GuestNoes x = new GuestNoes();
        Check.is("not", x.told(0), 0);
        Check.is("an evening without guests", Check.read(x, "t0;") * 0 + x.told(0), 1);
        Check.read(x, ALL);
        Check.is("guests", x.told(1), 6);
        Check.is("hosts", x.told(2), 4);
        Check.is("truths", x.told(3), 0);
        x.feed('t');
        Check.is("letters", x.told(4), 1);
        x.hour(20);
        Check.is("hours", x.told(5), 20);
        x.no(0, 5);
        Check.is("glad", x.told(7), 9);
        x.bed(4);
        Check.is("insults", x.told(8), 1);
        x.anew();
        Check.is("evenings", x.told(6), 1);
    }

    private static void toldOfEach() {
        Document.says("Promise 5", "9 who is up, 10 who was TOLD, 11 who WALKS (SETS of GUESTS), 12 RIGHT, 13 NOBODY'S (255 without GUESTS), "
            + "14 MEANLY, 15 LEAST PLEASED, 16 what is HEARD, 17 entries of THE BOOK, 18 how many can be undone.");
        GuestNoes x = Check.evening(ALL);
        int[] atFirst = {63, 0, 0, 0, 254, 0, Check.NONE, 0, 0, 0};
        for (int what = 9; what <= 18; what++) {
            Check.is("at first " + what, x.told(what), atFirst[what - 9]);
        }
        x.hour(1);
        x.no(0, 5);
        x.hour(1);
        // The daughter: 9 less bold, and one for each ahead: 9 at all claims.
        x.no(1, 3);
        x.bed(5);
        x.bed(0);
        x.hear(0, true);
        x.hear(0, true);
        x.write(0, 0);
        int[] then = {30, 40, 1, 0, 254, 0, 3, 2, 1, 6};
        for (int what = 9; what <= 18; what++) {
            Check.is("then " + what, x.told(what), then[what - 9]);
        }
    }

    private static void toldWithoutGuests() {
        Document.says("Promise 5", "(255 without GUESTS)");
        Check.is("new", new GuestNoes().told(13), 255);
        Check.is("hosts alone", Check.evening("t255;h0 1;").told(13), 255);
        GuestNoes x = Check.moor();
        x.evening();
        Check.is("no evening any more", x.told(13), 255);
    }

    private static void toldOutside() {
        Document.says("Promise 5", "18 how many can be undone. OUTSIDE.");
        GuestNoes x = Check.moor();
        Check.bounds("told", 0, 18, x::told);
        GuestNoes none = new GuestNoes();
        Check.bounds("told, no evening", 0, 18, none::told);
    }

    private static void guestNone() {
        Document.says("Promise 6", "0 PRIDE, 1 how many CLAIMS, 2 how many he SAID, 3 by which HOST he was TOLD (NONE), 4 at which CLAIM (NONE), 5 WRONG AT.");
        GuestNoes x = Check.evening("t1;g9 0,10,3;g0 0;h0 1;h0 1;h0 1;h0 1;");
        Check.is("pride", x.guest(0, 0), 9);
        Check.is("no pride", x.guest(1, 0), 0);
        Check.is("claims", x.guest(0, 1), 3);
        Check.is("said", x.guest(0, 2), 0);
        Check.is("by none", x.guest(0, 3), Check.NONE);
        Check.is("at none", x.guest(0, 4), Check.NONE);
        Check.is("wrong at", x.guest(0, 5), 1);
        Check.is("wrong at none", x.guest(1, 5), Check.NONE);
        x.hour(3);
        x.no(3, 0);
        x.no(0, 1);
        Check.is("all said", x.guest(0, 2), 3);
        Check.is("by the last host", x.guest(0, 3), 3);
        Check.is("at the last claim", x.guest(0, 4), 2);
        Check.is("by the first host", x.guest(1, 3), 0);
        Check.is("at the first claim", x.guest(1, 4), 0);
    }

    private static void guestRefusals() {
        Document.says("Promise 6", "5 WRONG AT. UNKNOWN, OUTSIDE.");
        GuestNoes x = Check.moor();
        Check.known("guest", 4, g -> x.guest(g, 5));
        Check.is("guest(-1, 0)", x.guest(-1, 0), Check.UNKNOWN);
        Check.bounds("what", 0, 5, what -> x.guest(3, what));
        Check.is("both", x.guest(4, 6), Check.UNKNOWN);
    }

    private static void claimNone() {
        Document.says("Promise 7", "CLAIM k (0 .. 5) of a GUEST: what = 0 TOPIC, 1 how BOLD; NONE: there is none.");
        GuestNoes x = Check.evening("t0;g0 79,78,77,76,75,74;g0 79;g0 1,2,3;");
        for (int k = 0; k < 6; k++) {
            Check.is("topic", x.claim(0, k, 0), 7);
            Check.is("bold", x.claim(0, k, 1), 9 - k);
            Check.is("one claim", x.claim(1, k, 0), k < 1 ? 7 : Check.NONE);
            Check.is("three claims", x.claim(2, k, 1), k < 3 ? k + 1 : Check.NONE);
        }
        Check.is("not said yet, but told of", x.claim(0, 5, 1), 4);
    }

    private static void claimRefusals() {
        Document.says("Promise 7", "NONE: there is none. UNKNOWN, OUTSIDE.");
        GuestNoes x = Check.moor();
        Check.known("claim", 4, g -> x.claim(g, 0, 1));
        Check.is("claim(-1, 0, 0)", x.claim(-1, 0, 0), Check.UNKNOWN);
        Check.bounds("k", 0, 5, k -> x.claim(0, k, 0));
        Check.bounds("k where there is none", 0, 5, k -> x.claim(3, k, 1));
        Check.bounds("what", 0, 1, what -> x.claim(0, 0, what));
        Check.bounds("what where there is none", 0, 1, what -> x.claim(3, 5, what));
        Check.is("all at once", x.claim(4, 6, 2), Check.UNKNOWN);
    }

    private static void hostNoes() {
        Document.says("Promise 8", "what = 0 KIND, 1 NOES told, 2 NOES left.");
        GuestNoes x = Check.evening("t0;g0 1;h3 9;h0 0;h1 1;");
        x.say(0);
        x.no(2, 0);
        int[][] due = {{3, 9, 9}, {0, 0, 0}, {1, 1, 0}};
        for (int h = 0; h < 3; h++) {
            for (int what = 0; what < 3; what++) {
                Check.is("host(" + h + ", " + what + ")", x.host(h, what), due[h][what]);
            }
        }
    }

    private static void hostRefusals() {
        Document.says("Promise 8", "UNKNOWN, OUTSIDE.");
        GuestNoes x = Check.evening("t0;g0 1;h3 9;h0 0;h1 1;");
        Check.known("host", 3, h -> x.host(h, 2));
        Check.is("host(-1, 0)", x.host(-1, 0), Check.UNKNOWN);
        Check.bounds("what", 0, 2, what -> x.host(2, what));
        Check.is("both", x.host(3, 3), Check.UNKNOWN);
    }
}
