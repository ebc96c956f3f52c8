/** Promises 9 to 16 at their bounds. */
final class DeedPromises {
    private static final String TWO = "t0;g0 1,2;g0 3,4;h0 1;h1 2;";

    private DeedPromises() {
    }

    static void run() {
        sayRefusals();
        sayNot();
        noRefusals();
        noNot();
        shareRefusals();
        shareNot();
        bedAnswers();
        bedRefusals();
        hoursOutside();
        hoursNot();
        hoursFull();
        anewNot();
        anewFull();
        driftOutside();
        driftNot();
        driftFull();
        undoOutside();
        undoNot();
    }

    private static void sayRefusals() {
        Document.says("Promise 9", "SAID: which CLAIM. UNKNOWN, NOT");
        GuestNoes x = Check.evening(TWO);
        Check.known("say", 2, x::say);
        Check.is("say(-1)", x.say(-1), Check.UNKNOWN);
    }

    private static void sayNot() {
        Document.says("Promise 9", "NOT: he is in BED, has none left.");
        GuestNoes x = Check.evening(TWO);
        x.bed(0);
        Check.is("in bed", x.say(0), Check.NOT);
        x.hour(1);
        Check.is("he came down", x.say(0), 0);
        Check.is("the last", x.say(0), 1);
        Check.is("none left", x.say(0), Check.NOT);
        x.no(0, 0);
        x.bed(0);
        Check.is("both", x.say(0), Check.NOT);
        Check.is("nothing was said", x.guest(0, 2), 2);
        Check.is("no deed", x.told(18), 6);
    }

    private static void noRefusals() {
        Document.says("Promise 10", "NO: his JOY. UNKNOWN, NOT");
        GuestNoes x = Check.evening(TWO);
        x.hour(1);
        Check.known("host", 2, h -> x.no(h, 0));
        Check.known("guest", 2, g -> x.no(1, g));
        Check.is("no(-1, 0)", x.no(-1, 0), Check.UNKNOWN);
        Check.is("no(0, -1)", x.no(0, -1), Check.UNKNOWN);
        Check.is("no(2, 2)", x.no(2, 2), Check.UNKNOWN);
    }

    private static void noNot() {
        Document.says("Promise 10", "NOT: the HOST has none left, he is in BED, SAID nothing yet, was TOLD.");
        GuestNoes x = Check.evening(TWO);
        Check.is("said nothing yet", x.no(0, 0), Check.NOT);
        x.hour(1);
        x.bed(1);
        Check.is("in bed", x.no(0, 1), Check.NOT);
        Check.is("it can be", x.no(0, 0), 1);
        Check.is("was told", x.no(1, 0), Check.NOT);
        x.hour(1);
        Check.is("has none left", x.no(0, 1), Check.NOT);
        Check.is("who has", x.no(1, 1), 1);
        Check.is("glad", x.told(7), 2);
        Check.is("left", x.host(1, 2), 1);
        GuestNoes y = Check.evening("t0;g0 1;h0 0;");
        y.say(0);
        Check.is("never had one", y.no(0, 0), Check.NOT);
    }

    private static void shareRefusals() {
        Document.says("Promise 11", "half of his JOY (cut). UNKNOWN, NOT");
        GuestNoes x = Check.evening(TWO);
        x.hour(1);
        x.no(0, 0);
        Check.is("with himself, told", x.share(0, 0), Check.UNKNOWN);
        Check.is("with himself, not told", x.share(1, 1), Check.UNKNOWN);
        Check.known("g", 2, g -> g == 0 ? 0 : x.share(g, 0));
        Check.known("q", 2, q -> q == 1 ? 0 : x.share(1, q));
        Check.is("share(-1, 0)", x.share(-1, 0), Check.UNKNOWN);
        Check.is("share(1, -1)", x.share(1, -1), Check.UNKNOWN);
        Check.is("glad: 1, and half of 3", x.told(7), 2);
    }

    private static void shareNot() {
        Document.says("Promise 11", "NOT: g is in BED, SAID nothing yet, was TOLD; q was not.");
        GuestNoes x = Check.evening("t0;g0 1;g0 3,4;g0 5;h0 1;h1 2;");
        x.say(0);
        Check.is("q was not", x.share(0, 1), Check.NOT);
        x.no(0, 0);
        Check.is("said nothing yet", x.share(1, 0), Check.NOT);
        x.say(1);
        x.say(2);
        x.bed(1);
        Check.is("in bed", x.share(1, 0), Check.NOT);
        Check.is("it can be", x.share(2, 0), 2);
        Check.is("was told", x.share(2, 0), Check.NOT);
        Check.is("both were told", x.share(0, 2), Check.NOT);
        Check.is("g was told, q was not", x.share(0, 1), Check.NOT);
        x.hour(1);
        Check.is("he came down", x.share(1, 2), 1);
    }

    private static void bedAnswers() {
        Document.says("Promise 12", "BED: 1 he WALKS, 0 not.");
        GuestNoes x = Check.evening(TWO);
        x.hour(1);
        x.no(0, 0);
        Check.is("told", x.bed(0), 0);
        Check.is("not told", x.bed(1), 1);
        Check.is("who walks", x.told(11), 2);
    }

    private static void bedRefusals() {
        Document.says("Promise 12", "UNKNOWN, NOT: he is in BED.");
        GuestNoes x = Check.evening(TWO);
        Check.known("bed", 2, x::bed);
        Check.is("bed(-1)", x.bed(-1), Check.UNKNOWN);
        Check.is("in bed", x.bed(0), Check.NOT);
        Check.is("in bed", x.bed(1), Check.NOT);
        Check.is("insults", x.told(8), 2);
        x.hour(1);
        Check.is("he came down", x.bed(0), 1);
        x.anew();
        Check.is("another evening", x.bed(0), 1);
    }

    private static void hoursOutside() {
        Document.says("Promise 13", "n HOURS (1 .. 20): HOURS. OUTSIDE");
        GuestNoes x = Check.evening(TWO);
        Check.bounds("hour", 1, 20, x::hour);
        Check.is("hours", x.told(5), 21);
        int due = 21;
        for (int n = 1; n <= 20; n++) {
            due += n;
            Check.is("hour(" + n + ")", x.hour(n), due);
        }
    }

    private static void hoursNot() {
        Document.says("Promise 13", "NOT: no EVENING");
        GuestNoes x = new GuestNoes();
        Check.is("new", x.hour(1), Check.NOT);
        Check.is("new, the most", x.hour(20), Check.NOT);
        Check.read(x, "t0;");
        Check.is("without guests it is one", x.hour(20), 20);
        x.evening();
        Check.is("no evening any more", x.hour(1), Check.NOT);
        Check.is("hours", x.told(5), 0);
    }

    /** What comes behind the 512th call is free; this class goes on as ahead of it, and the bound cannot be seen otherwise. */
    private static GuestNoes longNight(int hours) {
        GuestNoes x = Check.evening(TWO);
        for (int i = 0; i < hours / 20; i++) {
            x.hour(20);
        }
        Check.is("hours", x.told(5), hours);
        return x;
    }

    private static void hoursFull() {
        Document.says("Promise 13", "FULL: HOURS are above 90000.");
        GuestNoes x = longNight(90000);
        Check.is("90000 is not above", x.hour(1), 90001);
        Check.is("above", x.hour(1), Check.FULL);
        Check.is("outside first", x.hour(21), Check.OUTSIDE);
        Check.is("outside first", x.hour(0), Check.OUTSIDE);
        Check.is("hours", x.told(5), 90001);
        Check.is("undone", x.undo(1), 90000);
        Check.is("twenty at once", x.hour(20), 90020);
        Check.is("above", x.hour(20), Check.FULL);
        Check.is("other deeds can be", x.anew(), 1);
        Check.is("hours go on", x.hour(1), Check.FULL);
    }

    private static void anewNot() {
        Document.says("Promise 14", "NOT: no EVENING");
        GuestNoes x = new GuestNoes();
        Check.is("new", x.anew(), Check.NOT);
        Check.read(x, "t0;");
        Check.is("without guests it is one", x.anew(), 1);
        Check.is("again", x.anew(), 2);
        x.evening();
        Check.is("no evening any more", x.anew(), Check.NOT);
        Check.is("evenings", x.told(6), 0);
    }

    private static void anewFull() {
        Document.says("Promise 14", "FULL: EVENINGS are 90000.");
        GuestNoes x = Check.evening(TWO);
        for (int n = 1; n < 90000; n++) {
            x.anew();
        }
        Check.is("not yet", x.told(6), 89999);
        Check.is("the last", x.anew(), 90000);
        Check.is("no more", x.anew(), Check.FULL);
        Check.is("evenings", x.told(6), 90000);
        x.say(0);
        Check.is("no more", x.anew(), Check.FULL);
        Check.is("nothing changes", x.guest(0, 2), 1);
        x.undo(2);
        Check.is("undone", x.anew(), 90000);
    }

    private static void driftOutside() {
        Document.says("Promise 15", "n HOURS BY DRAWS (1 .. 20): HOURS. OUTSIDE");
        GuestNoes x = Check.evening(TWO);
        Check.bounds("drift", 1, 20, x::drift);
        Check.is("hours", x.told(5), 21);
        int seed = x.seed(0);
        x.seed(seed);
        x.drift(0);
        x.drift(21);
        Check.is("no draw by what is refused", x.seed(seed), seed);
        int due = 21;
        for (int n = 1; n <= 20; n++) {
            due += n;
            Check.is("drift(" + n + ")", x.drift(n), due);
        }
    }

    private static void driftNot() {
        Document.says("Promise 15", "NOT: no EVENING");
        GuestNoes x = new GuestNoes();
        x.seed(7);
        Check.is("new", x.drift(1), Check.NOT);
        Check.is("new, the most", x.drift(20), Check.NOT);
        Check.is("no draw", x.seed(7), 7);
        Check.read(x, "t0;");
        Check.is("without guests it is one", x.drift(20), 20);
        x.evening();
        Check.is("no evening any more", x.drift(1), Check.NOT);
    }

    private static void driftFull() {
        Document.says("Promise 15", "FULL: HOURS are above 90000.");
        GuestNoes x = longNight(90000);
        Check.is("90000 is not above", x.drift(1), 90001);
        x.seed(7);
        Check.is("above", x.drift(1), Check.FULL);
        Check.is("no draw", x.seed(7), 7);
        Check.is("outside first", x.drift(21), Check.OUTSIDE);
        Check.is("undone", x.undo(1), 90000);
        Check.is("twenty at once", x.drift(20), 90020);
        Check.is("above", x.drift(20), Check.FULL);
    }

    private static void undoOutside() {
        Document.says("Promise 16", "The n latest (1 .. 30) are undone: HOURS. OUTSIDE");
        GuestNoes x = Check.evening(TWO);
        Check.bounds("undo, nothing done", 1, 30, x::undo);
        x.hour(20);
        x.hour(20);
        Check.is("undo(0)", x.undo(0), Check.OUTSIDE);
        Check.is("undo(31)", x.undo(31), Check.OUTSIDE);
        Check.is("undo(-1)", x.undo(-1), Check.OUTSIDE);
        Check.is("undo(30)", x.undo(30), 10);
        Check.is("nothing is left", x.told(18), 0);
    }

    private static void undoNot() {
        Document.says("Promise 16", "NOT: not so many.");
        GuestNoes x = Check.evening(TWO);
        for (int done = 0; done < 4; done++) {
            for (int n = done + 1; n <= 30; n++) {
                Check.is("undo(" + n + ") of " + done, x.undo(n), Check.NOT);
            }
            x.hour(1);
        }
        Check.is("four are there", x.told(18), 4);
        Check.is("all of them", x.undo(4), 0);
        Check.is("not one", x.undo(1), Check.NOT);
        Check.is("no evening", new GuestNoes().undo(1), Check.NOT);
        x.hour(20);
        x.hour(20);
        x.undo(7);
        Check.is("those that fell out are gone", x.undo(24), Check.NOT);
        Check.is("the others are not", x.undo(23), 10);
    }
}
