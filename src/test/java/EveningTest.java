/** Promises 1 to 8: the text, its faults, and what is told of guests and hosts. */
public final class EveningTest {
    public static void main(String[] args) {
        newObject();
        feeding();
        fullText();
        evenings();
        emptyText();
        textAfterText();
        eveningForgets();
        outOfPlace();
        badNumbers();
        tooMany();
        firstFaultCounts();
        blanks();
        faultLeavesAll();
        toldOfAll();
        guests();
        claims();
        hosts();
        Check.end("EveningTest");
    }

    private static void newObject() {
        GuestNoes x = new GuestNoes();
        for (int what = 0; what <= 18; what++) {
            int due = what == 13 ? 255 : what == 15 ? -1 : 0;
            Check.is("new: told(" + what + ")", x.told(what), due);
        }
        Check.is("new: fault", x.fault(), Check.NONE);
        Check.is("new: guest", x.guest(0, 0), Check.UNKNOWN);
        Check.is("new: host", x.host(0, 0), Check.UNKNOWN);
        Check.is("new: claim", x.claim(0, 0, 0), Check.UNKNOWN);
        Check.is("new: say", x.say(0), Check.UNKNOWN);
        Check.is("new: no", x.no(0, 0), Check.UNKNOWN);
        Check.is("new: share", x.share(0, 1), Check.UNKNOWN);
        Check.is("new: bed", x.bed(0), Check.UNKNOWN);
        Check.is("new: hour", x.hour(1), Check.NOT);
        Check.is("new: anew", x.anew(), Check.NOT);
        Check.is("new: drift", x.drift(1), Check.NOT);
        Check.is("new: undo", x.undo(1), Check.NOT);
        Check.is("new: joy", x.joy(0, 0, 0), Check.UNKNOWN);
        Check.is("new: best", x.best(0, 0), Check.UNKNOWN);
        Check.is("new: plan in all", x.plan(-1), 0);
        Check.is("new: plan", x.plan(0), Check.UNKNOWN);
        Check.is("new: line", x.line(0, 0), Check.UNKNOWN);
        Check.is("new: now", x.now(0, 0, 0), Check.UNKNOWN);
        Check.is("new: agree", x.agree(0, 1), Check.UNKNOWN);
        Check.is("new: boldest", x.boldest(0), Check.NONE);
        Check.is("new: couldBe", x.couldBe(), 0);
        Check.is("new: ask", x.ask(), Check.NONE);
        Check.is("new: write", x.write(0, -1), Check.UNKNOWN);
        Check.is("new: judge", x.judge(), Check.NONE);
        Check.is("new: tear", x.tear(), 0);
        Check.is("new: seed", x.seed(0), 0);
        Check.is("new: goBack", x.goBack(0), Check.NOT);
    }

    private static void feeding() {
        GuestNoes x = new GuestNoes();
        Check.is("feed(0)", x.feed(0), 1);
        Check.is("feed(255)", x.feed(255), 2);
        Check.is("feed(-1)", x.feed(-1), Check.OUTSIDE);
        Check.is("feed(256)", x.feed(256), Check.OUTSIDE);
        Check.is("feed(least)", x.feed(Integer.MIN_VALUE), Check.OUTSIDE);
        Check.is("feed(most)", x.feed(Integer.MAX_VALUE), Check.OUTSIDE);
        Check.is("letters", x.told(4), 2);
    }

    private static void fullText() {
        GuestNoes x = new GuestNoes();
        Check.feedAll(x, "t7;g1 2;h0 3;");
        for (int n = 14; n <= 240; n++) {
            Check.is("feed " + n, x.feed(' '), n);
        }
        Check.is("feed 241", x.feed(' '), Check.FULL);
        Check.is("feed outside when full", x.feed(256), Check.OUTSIDE);
        Check.is("letters", x.told(4), 240);
        Check.is("240 letters", x.evening(), 1);
        Check.is("the text is empty", x.told(4), 0);
        Check.is("fed again", x.feed('t'), 1);
    }

    private static void evenings() {
        GuestNoes x = new GuestNoes();
        Check.is("moor", Check.read(x, Check.MOOR), 4);
        Check.is("there", x.told(0), 1);
        Check.is("letters", x.told(4), 0);
        Check.is("no fault", x.fault(), Check.NONE);
        Check.is("only truths", Check.read(x, "t255;"), 0);
        Check.is("there", x.told(0), 1);
        Check.is("truths", x.told(3), 255);
        Check.is("hosts ahead of guests", Check.read(x, "t0;h3 9;g9 79,0;h0 0;g0 1;"), 2);
        Check.is("their hosts", x.told(2), 2);
        Check.is("three figures", Check.read(x, "t007;g009 079,000;h003 009;"), 1);
        Check.is("truths", x.told(3), 7);
        Check.is("six of each", Check.read(x, "t0;g0 0,1,2,3,4,5;g0 0;g0 0;g0 0;g0 0;g0 0;h0 0;h0 0;h0 0;h0 0;"), 6);
        Check.is("six claims", x.guest(0, 1), 6);
        Check.is("four hosts", x.told(2), 4);
    }

    private static void emptyText() {
        GuestNoes x = Check.moor();
        x.hear(0, true);
        x.write(0, -1);
        x.hour(3);
        x.seed(77);
        Check.is("empty text", x.evening(), 0);
        Check.is("no evening", x.told(0), 0);
        Check.is("no guests", x.told(1), 0);
        Check.is("no hosts", x.told(2), 0);
        Check.is("no truths", x.told(3), 0);
        Check.is("hours", x.told(5), 0);
        Check.is("up", x.told(9), 0);
        Check.is("nobody's", x.told(13), 255);
        Check.is("heard", x.told(16), 0);
        Check.is("book", x.told(17), 0);
        Check.is("undone", x.told(18), 0);
        Check.is("hour", x.hour(1), Check.NOT);
        Check.is("fault", x.fault(), Check.NONE);
        Check.is("the seed stays", x.seed(0), 77);
        Check.is("blanks alone", Check.read(x, "   "), 0);
        Check.is("no evening", x.told(0), 0);
    }

    private static void textAfterText() {
        GuestNoes x = Check.moor();
        Check.read(x, "t9;g1 20,30;h2 2;");
        Check.is("a third text", Check.read(x, "t2;g5 70;g6 60;"), 2);
        Check.is("one claim", x.guest(0, 1), 1);
        Check.is("it", x.claim(0, 0, 0), 7);
        Check.is("no other", x.claim(0, 1, 0), Check.NONE);
        Check.is("nobody's", x.told(13), 63);
        Check.is("no hosts", x.told(2), 0);
        Check.is("truths", x.told(3), 2);
        Check.is("then none", x.evening(), 0);
        Check.is("no truths", x.told(3), 0);
        Check.is("then none again", x.evening(), 0);
        Check.is("no truths", x.told(3), 0);
    }

    private static void eveningForgets() {
        GuestNoes x = Check.moor();
        x.keep(0);
        x.seed(5);
        x.keep(1);
        x.hear(0, true);
        x.write(0, -1);
        x.say(0);
        x.no(0, 0);
        x.bed(1);
        x.anew();
        x.bed(1);
        x.hour(2);
        x.bed(2);
        Check.is("again", Check.read(x, Check.MOOR), 4);
        String due = Check.state(Check.moor());
        x.seed(0);
        Check.same("as new", Check.state(x), due);
        Check.is("image 0 is gone", x.goBack(0), Check.NOT);
        Check.is("image 1 is gone", x.goBack(1), Check.NOT);
        Check.is("nothing to undo", x.undo(1), Check.NOT);
    }

    private static void fault(String text, int answer, int place) {
        GuestNoes x = new GuestNoes();
        Check.is("evening of \"" + text + "\"", Check.read(x, text), answer);
        Check.is("fault of \"" + text + "\"", x.fault(), place);
        Check.is("letters then", x.told(4), 0);
    }

    private static void outOfPlace() {
        fault("g0 0;", -11, 0);
        fault("h0 0;", -11, 0);
        fault(";", -11, 0);
        fault("5", -11, 0);
        fault("  x", -11, 2);
        fault("t", -11, 1);
        fault("t  ", -11, 3);
        fault("t5", -11, 2);
        fault("t5,", -11, 2);
        fault("tt", -11, 1);
        fault("t5t", -11, 2);
        fault("t5;;", -11, 3);
        fault("t5;T5;", -11, 3);
        fault("t5;g", -11, 4);
        fault("t5;g1", -11, 5);
        fault("t5;g1;", -11, 5);
        fault("t5;g1,2;", -11, 5);
        fault("t5;g1 2", -11, 7);
        fault("t5;g1 2 3;", -11, 8);
        fault("t5;g1 2,;", -11, 8);
        fault("t5;g1 2,,3;", -11, 8);
        fault("t5;g1 2,3", -11, 9);
        fault("t5;h", -11, 4);
        fault("t5;h1", -11, 5);
        fault("t5;h1;", -11, 5);
        fault("t5;h1,2;", -11, 5);
        fault("t5;h1 2,3;", -11, 7);
        fault("t5;h1 2", -11, 7);
        fault("t-5;", -11, 1);
        fault("t5;g0 0,1,2,3,4,5,6;", -11, 17);
        fault("t5;g0 0,1,2,3,4,5 ,80;", -11, 18);
        fault("t5;" + (char) 255, -11, 3);
        fault("t5;" + (char) 0, -11, 3);
        fault("t5\t;", -11, 2);
    }

    private static void badNumbers() {
        fault("t256;", -12, 1);
        fault("t 999", -12, 2);
        fault("t0000;", -12, 1);
        fault("t0255;", -12, 1);
        fault("t99999999999999999999;", -12, 1);
        fault("t00000000000000004294967296;", -12, 1);
        fault("t5;g10 0;", -12, 4);
        fault("t5;g512;", -12, 4);
        fault("t5;g0000 0;", -12, 4);
        fault("t5;g0 80;", -12, 6);
        fault("t5;g0 0,80;", -12, 8);
        fault("t5;g0 0,0001;", -12, 8);
        fault("t5;h4 0;", -12, 4);
        fault("t5;h0 10;", -12, 6);
        fault("t5;h0  0000;", -12, 7);
    }

    private static void tooMany() {
        fault("t5;t5;", -13, 3);
        fault("t5; t", -13, 4);
        fault("t5;g0 0;t5;", -13, 8);
        fault("t0;g0 0;g0 0;g0 0;g0 0;g0 0;g0 0;g", -13, 33);
        fault("t0;h0 0;h0 0;h0 0;h0 0;h9", -13, 23);
        fault("t0;g0 0;g0 0;g0 0;g0 0;g0 0;g0 0; h0 0;g0 0;", -13, 39);
    }

    private static void firstFaultCounts() {
        fault("t256;t5;x", -12, 1);
        fault("t300x", -12, 1);
        fault("t5;g0;g10 0;", -11, 5);
        fault("t5;g10;", -12, 4);
        fault("t5;h4;", -12, 4);
        fault("t5;g0 90,", -12, 6);
        fault("x256", -11, 0);
        GuestNoes x = new GuestNoes();
        Check.read(x, "t256;");
        Check.is("fault stands", x.fault(), 1);
        x.feed('t');
        Check.is("feed leaves it", x.fault(), 1);
        Check.feedAll(x, "1;");
        Check.is("a text without", x.evening(), 0);
        Check.is("fault is gone", x.fault(), Check.NONE);
    }

    private static void blanks() {
        GuestNoes x = new GuestNoes();
        Check.is("blanks", Check.read(x, "  t  5  ;  g  3  5 , 28  ,11  ;  h  0  1  ;  "), 1);
        Check.is("truths", x.told(3), 5);
        Check.is("claims", x.guest(0, 1), 3);
        Check.is("noes", x.host(0, 1), 1);
        fault("t 2 5;", -11, 4);
        Check.is("no blank where none is needed", Check.read(x, "t1;g1 2,3;g4 5;h1 2;"), 2);
    }

    private static void faultLeavesAll() {
        GuestNoes x = Check.moor();
        x.hour(2);
        x.no(1, 2);
        x.bed(0);
        x.keep(0);
        x.seed(9);
        x.hear(2, true);
        x.write(2, 1);
        x.say(2);
        String was = Check.state(x);
        Check.is("evening with a fault", Check.read(x, "t1;g0 1,2,3;h4"), -12);
        Check.is("its place", x.fault(), 13);
        String now = Check.state(x);
        Check.same("all as it was", now.substring(0, now.lastIndexOf(' ')), was.substring(0, was.lastIndexOf(' ')));
        Check.is("a claim too", x.claim(0, 1, 1), 8);
        Check.is("undo", x.undo(1), 2);
        Check.is("image", x.goBack(0), 1);
    }

    private static void toldOfAll() {
        GuestNoes x = Check.moor();
        int[] due = {1, 4, 4, 5, 0, 0, 0, 0, 0, 15, 0, 0, 4, 112, 0, -1, 0, 0, 0};
        for (int what = 0; what < due.length; what++) {
            Check.is("told(" + what + ")", x.told(what), due[what]);
        }
        Check.is("told(-1)", x.told(-1), Check.OUTSIDE);
        Check.is("told(19)", x.told(19), Check.OUTSIDE);
        Check.is("told(most)", x.told(Integer.MAX_VALUE), Check.OUTSIDE);
        Check.is("told(least)", x.told(Integer.MIN_VALUE), Check.OUTSIDE);
        x.feed('t');
        x.hour(2);
        x.no(1, 2);
        x.bed(0);
        x.hear(1, false);
        x.write(0, 0);
        x.write(0, 1);
        // Guest 2 was told at claim 1 by the mild one, 0 + 9 + 1; it would have been 3 + 9 at claim 0: meanly.
        int[] then = {1, 4, 4, 5, 1, 2, 0, 10, 1, 14, 4, 1, 4, 112, 4, 2, 1, 2, 4};
        for (int what = 0; what < then.length; what++) {
            Check.is("then told(" + what + ")", x.told(what), then[what]);
        }
        x.anew();
        Check.is("evenings", x.told(6), 1);
        Check.is("told", x.told(10), 0);
        Check.is("hours", x.told(5), 2);
        Check.is("nobody's", Check.evening("t0;g0 0,10,20,30,40,50;g0 60,70;").told(13), 0);
        Check.is("right in nothing", Check.evening("t0;g0 0;").told(12), 0);
        Check.is("right", Check.evening("t6;g0 10,20;g0 20,0;g0 29;").told(12), 5);
    }

    private static void guests() {
        GuestNoes x = Check.moor();
        int[][] due = {{3, 3, 0, -1, -1, 2}, {0, 2, 0, -1, -1, 0}, {9, 4, 0, -1, -1, -1}, {2, 1, 0, -1, -1, 0}};
        for (int g = 0; g < 4; g++) {
            for (int what = 0; what < 6; what++) {
                Check.is("guest(" + g + ", " + what + ")", x.guest(g, what), due[g][what]);
            }
        }
        x.hour(2);
        x.no(2, 0);
        Check.is("said", x.guest(0, 2), 2);
        Check.is("by", x.guest(0, 3), 2);
        Check.is("at", x.guest(0, 4), 1);
        Check.is("guest(-1)", x.guest(-1, 0), Check.UNKNOWN);
        Check.is("guest(4)", x.guest(4, 0), Check.UNKNOWN);
        Check.is("guest(4, 9)", x.guest(4, 9), Check.UNKNOWN);
        Check.is("guest(0, -1)", x.guest(0, -1), Check.OUTSIDE);
        Check.is("guest(0, 6)", x.guest(0, 6), Check.OUTSIDE);
    }

    private static void claims() {
        GuestNoes x = Check.evening("t0;g0 0,9,79,70,45,12;g0 33;");
        int[] topics = {0, 0, 7, 7, 4, 1};
        int[] bolds = {0, 9, 9, 0, 5, 2};
        for (int k = 0; k < 6; k++) {
            Check.is("topic " + k, x.claim(0, k, 0), topics[k]);
            Check.is("bold " + k, x.claim(0, k, 1), bolds[k]);
        }
        Check.is("none there", x.claim(1, 1, 0), Check.NONE);
        Check.is("none there", x.claim(1, 5, 1), Check.NONE);
        Check.is("k -1", x.claim(1, -1, 0), Check.OUTSIDE);
        Check.is("k 6", x.claim(0, 6, 0), Check.OUTSIDE);
        Check.is("what 2", x.claim(0, 0, 2), Check.OUTSIDE);
        Check.is("what -1, no claim", x.claim(1, 5, -1), Check.OUTSIDE);
        Check.is("unknown first", x.claim(2, 6, 2), Check.UNKNOWN);
        Check.is("unknown", x.claim(-1, 0, 0), Check.UNKNOWN);
        Check.read(x, "t0;g0 1;");
        Check.is("a shorter text leaves none of the old", x.claim(0, 1, 0), Check.NONE);
    }

    private static void hosts() {
        GuestNoes x = Check.moor();
        for (int h = 0; h < 4; h++) {
            Check.is("kind", x.host(h, 0), h);
        }
        Check.is("noes", x.host(1, 1), 2);
        Check.is("left", x.host(1, 2), 2);
        x.say(0);
        x.no(1, 0);
        Check.is("noes", x.host(1, 1), 2);
        Check.is("left", x.host(1, 2), 1);
        Check.is("others", x.host(0, 2), 1);
        Check.is("none", x.host(3, 2), 0);
        Check.is("host(-1)", x.host(-1, 0), Check.UNKNOWN);
        Check.is("host(4)", x.host(4, 5), Check.UNKNOWN);
        Check.is("host(0, 3)", x.host(0, 3), Check.OUTSIDE);
        Check.is("host(0, -1)", x.host(0, -1), Check.OUTSIDE);
    }
}
