/** Promises 17 to 24 at their bounds. */
final class TriedPromises {
    private static final String TWO = "t0;g0 1,2;g0 3,4,5;h0 1;h1 2;";

    private TriedPromises() {
    }

    static void run() {
        joyNone();
        joyRefusals();
        bestNone();
        bestRefusals();
        planNone();
        planRefusals();
        lineWithout();
        lineRefusals();
        nowRefusals();
        nowNot();
        agreeRefusals();
        boldestNone();
        boldestOutside();
        dryOutside();
    }

    private static void joyNone() {
        Document.says("Promise 17", "JOY at CLAIM k (0 .. 5); NONE: there is none.");
        GuestNoes x = Check.evening("t0;g0 1,2,3,4,5,6;g0 9;h0 0;");
        for (int k = 0; k < 6; k++) {
            Check.is("six claims", x.joy(0, 0, k), 2 * k + 1);
            Check.is("one claim", x.joy(1, 0, k), k == 0 ? 9 : Check.NONE);
        }
        Check.is("joy of 0 is no NONE", Check.evening("t0;g0 0;h1 1;").joy(0, 0, 0), 0);
    }

    private static void joyRefusals() {
        Document.says("Promise 17", "UNKNOWN, OUTSIDE.");
        GuestNoes x = Check.evening(TWO);
        Check.known("g", 2, g -> x.joy(g, 0, 0));
        Check.known("h", 2, h -> x.joy(0, h, 0));
        Check.bounds("k", 0, 5, k -> x.joy(1, 1, k));
        Check.is("joy(-1, 0, 0)", x.joy(-1, 0, 0), Check.UNKNOWN);
        Check.is("joy(0, -1, 0)", x.joy(0, -1, 0), Check.UNKNOWN);
        Check.is("joy(2, 0, 6)", x.joy(2, 0, 6), Check.UNKNOWN);
        Check.is("joy(0, 2, 6)", x.joy(0, 2, 6), Check.UNKNOWN);
    }

    private static void bestNone() {
        Document.says("Promise 18", "0 how much, 1 the CLAIM, 2 the HOST; NONE (TOLD, too).");
        GuestNoes x = Check.evening("t0;g0 1;g0 2;h0 1;");
        x.hour(1);
        Check.is("how much", x.best(0, 0), 1);
        Check.is("the claim", x.best(0, 1), 0);
        Check.is("the host", x.best(0, 2), 0);
        x.no(0, 1);
        for (int what = 0; what < 3; what++) {
            Check.is("told: " + what, x.best(1, what), Check.NONE);
            Check.is("no host has a no: " + what, x.best(0, what), Check.NONE);
        }
        x.share(0, 1);
        Check.is("shared", x.best(0, 0), Check.NONE);
    }

    private static void bestRefusals() {
        Document.says("Promise 18", "NONE (TOLD, too). UNKNOWN, OUTSIDE.");
        GuestNoes x = Check.evening(TWO);
        Check.known("g", 2, g -> x.best(g, 0));
        Check.is("best(-1, 0)", x.best(-1, 0), Check.UNKNOWN);
        Check.bounds("what", 0, 2, what -> x.best(0, what));
        x.say(0);
        x.no(0, 0);
        Check.bounds("what, of one told", 0, 2, what -> x.best(0, what));
        Check.is("both", x.best(2, 3), Check.UNKNOWN);
    }

    private static void planNone() {
        Document.says("Promise 19", "PLAN: g = NONE how much, else the HOST of a GUEST; NONE.");
        GuestNoes x = Check.evening("t0;g0 1;g0 2;h0 1;");
        Check.is("how much", x.plan(-1), 2);
        Check.is("none for him", x.plan(0), Check.NONE);
        Check.is("his host", x.plan(1), 0);
        x.hour(1);
        x.no(0, 1);
        Check.is("told", x.plan(1), Check.NONE);
        Check.is("no no is left", x.plan(0), Check.NONE);
        Check.is("nothing more", x.plan(-1), 0);
        Check.is("no evening", new GuestNoes().plan(-1), 0);
    }

    private static void planRefusals() {
        Document.says("Promise 19", "else the HOST of a GUEST; NONE. UNKNOWN.");
        GuestNoes x = Check.evening(TWO);
        Check.known("g", 2, x::plan);
        Check.is("plan(-2)", x.plan(-2), Check.UNKNOWN);
        Check.is("no evening", new GuestNoes().plan(0), Check.UNKNOWN);
    }

    private static void lineWithout() {
        Document.says("Promise 20", "LINE: 0 without CLAIMS left.");
        GuestNoes x = Check.evening(TWO);
        x.hour(1);
        Check.is("one is left", x.line(0, 0), 2000);
        x.hour(1);
        Check.is("none is left", x.line(0, 0), 0);
        Check.is("none is left", x.line(0, 1), 0);
        Check.is("one is left", x.line(1, 0), 5000);
        x.anew();
        Check.is("all are left", x.line(0, 0), 2000);
    }

    private static void lineRefusals() {
        Document.says("Promise 20", "UNKNOWN.");
        GuestNoes x = Check.evening(TWO);
        Check.known("g", 2, g -> x.line(g, 0));
        Check.known("h", 2, h -> x.line(0, h));
        Check.is("line(-1, 0)", x.line(-1, 0), Check.UNKNOWN);
        Check.is("line(0, -1)", x.line(0, -1), Check.UNKNOWN);
        Check.is("no host, none left to say", Check.evening("t0;g0 1;").line(0, 0), Check.UNKNOWN);
    }

    private static void nowRefusals() {
        Document.says("Promise 21", "NOW at CLAIM k (0 .. 5). UNKNOWN, OUTSIDE");
        GuestNoes x = Check.evening(TWO);
        Check.known("g", 2, g -> x.now(g, 0, 0));
        Check.known("h", 2, h -> x.now(0, h, 0));
        Check.bounds("k", 0, 5, k -> x.now(0, 0, k));
        Check.is("now(-1, 0, 0)", x.now(-1, 0, 0), Check.UNKNOWN);
        Check.is("now(0, -1, 0)", x.now(0, -1, 0), Check.UNKNOWN);
        Check.is("now(2, 0, 6)", x.now(2, 0, 6), Check.UNKNOWN);
        Check.is("now(0, 2, 6)", x.now(0, 2, 6), Check.UNKNOWN);
        x.hour(9);
        Check.bounds("k, all said", 0, 5, k -> x.now(0, 0, k));
    }

    private static void nowNot() {
        Document.says("Promise 21", "NOT: it is SAID, there is none.");
        GuestNoes x = Check.evening("t0;g0 1,2,3,4,5,6;g0 7,8;h0 0;");
        for (int said = 0; said <= 6; said++) {
            for (int k = 0; k < 6; k++) {
                Check.is("said " + said + ", claim " + k, x.now(0, 0, k), k < said ? Check.NOT : k == 5 ? 1 : 0);
            }
            x.say(0);
        }
        for (int k = 2; k < 6; k++) {
            Check.is("there is no claim " + k, x.now(1, 0, k), Check.NOT);
        }
        Check.is("the last there is", x.now(1, 0, 1), 1);
    }

    private static void agreeRefusals() {
        Document.says("Promise 22", "AGREE. UNKNOWN.");
        GuestNoes x = Check.evening(TWO);
        Check.is("two", x.agree(0, 1), 1);
        Check.is("the other way", x.agree(1, 0), 1);
        Check.is("one twice", x.agree(0, 0), Check.UNKNOWN);
        Check.is("one twice", x.agree(1, 1), Check.UNKNOWN);
        Check.known("g", 2, g -> g == 1 ? 0 : x.agree(g, 1));
        Check.known("q", 2, q -> q == 0 ? 0 : x.agree(0, q));
        Check.is("agree(-1, 0)", x.agree(-1, 0), Check.UNKNOWN);
        Check.is("agree(0, -1)", x.agree(0, -1), Check.UNKNOWN);
        Check.is("neither is there, and one twice", x.agree(2, 2), Check.UNKNOWN);
    }

    private static void boldestNone() {
        Document.says("Promise 23", "BOLDEST (0 .. 7); NONE.");
        GuestNoes x = Check.evening("t0;g0 5,75;g0 79;");
        int[] due = {0, -1, -1, -1, -1, -1, -1, 1};
        for (int topic = 0; topic < 8; topic++) {
            Check.is("boldest(" + topic + ")", x.boldest(topic), due[topic]);
            Check.is("no evening: " + topic, new GuestNoes().boldest(topic), Check.NONE);
        }
    }

    private static void boldestOutside() {
        Document.says("Promise 23", "NONE. OUTSIDE.");
        GuestNoes x = Check.evening(TWO);
        Check.bounds("boldest", 0, 7, x::boldest);
        GuestNoes none = new GuestNoes();
        Check.bounds("boldest, no evening", 0, 7, none::boldest);
    }

    private static void dryOutside() {
        Document.says("Promise 24", "DRY WEEK. OUTSIDE.");
        GuestNoes x = new GuestNoes();
        Check.bounds("n", 0, 60, n -> x.dry(n, 100));
        Check.bounds("n, q 0", 0, 60, n -> x.dry(n, 0));
        Check.bounds("q", 0, 100, q -> x.dry(60, q));
        Check.bounds("q, n 0", 0, 100, q -> x.dry(0, q));
        Check.is("no hours", x.dry(0, 0), 1000000000);
        Check.is("one, surely wet", x.dry(1, 0), 0);
        Check.is("sixty, surely dry", x.dry(60, 100), 1000000000);
        Check.is("sixty, hardly", x.dry(60, 1), 0);
        Check.is("four, hardly", x.dry(4, 1), 10);
        Check.is("five, cut to nothing", x.dry(5, 1), 0);
        Check.is("both outside", x.dry(61, 101), Check.OUTSIDE);
    }
}
