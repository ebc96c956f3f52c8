/** Promises 17 to 24, and MEANLY and LEAST PLEASED of promise 5: what is tried, and changes nothing. */
public final class TriedTest {
    private static final String KINDS = "t1;g4 0,9,10,19;h0 1;h1 1;h2 1;h3 1;";

    public static void main(String[] args) {
        joys();
        bests();
        bestOfLikeOnes();
        bestOfNone();
        plans();
        planOfLikeOnes();
        planFromNow();
        lines();
        nows();
        agreeing();
        boldest();
        dryWeeks();
        meanly();
        leastPleased();
        nothingChanges();
        Check.end("TriedTest");
    }

    private static void joys() {
        GuestNoes x = Check.evening(KINDS);
        int[][] due = {{4, 14, 2, 12}, {4, 9, 2, 7}, {4, 11, 7, 17}, {13, 5, 11, 3}};
        for (int h = 0; h < 4; h++) {
            for (int k = 0; k < 4; k++) {
                Check.is("joy(0, " + h + ", " + k + ")", x.joy(0, h, k), due[h][k]);
            }
        }
        Check.is("learned, true, bold 3", Check.evening("t1;g0 3;h2 1;").joy(0, 0, 0), 0);
        Check.is("learned, true, bold 4", Check.evening("t1;g0 4;h2 1;").joy(0, 0, 0), 1);
        Check.is("no claim", x.joy(0, 0, 4), Check.NONE);
        Check.is("k 6", x.joy(0, 0, 6), Check.OUTSIDE);
        Check.is("k -1", x.joy(0, 0, -1), Check.OUTSIDE);
        Check.is("host 4", x.joy(0, 4, 0), Check.UNKNOWN);
        Check.is("guest 1", x.joy(1, 0, 6), Check.UNKNOWN);
        Check.is("guest -1", x.joy(-1, 0, 0), Check.UNKNOWN);
        Check.is("host -1", x.joy(0, -1, 9), Check.UNKNOWN);
        x.hour(3);
        x.no(0, 0);
        Check.is("said and told makes no difference", x.joy(0, 0, 1), 14);
        Check.is("a host without noes", Check.moor().joy(2, 3, 3), 18);
    }

    private static void best(String when, GuestNoes x, int g, int joy, int claim, int host) {
        Check.is(when + ": how much", x.best(g, 0), joy);
        Check.is(when + ": claim", x.best(g, 1), claim);
        Check.is(when + ": host", x.best(g, 2), host);
    }

    private static void bests() {
        GuestNoes x = Check.evening(KINDS);
        best("at first", x, 0, 17, 3, 2);
        x.bed(0);
        best("in bed", x, 0, 17, 3, 2);
        GuestNoes y = Check.evening("t1;g4 0,9,10,11;h3 1;");
        best("the first", y, 0, 13, 0, 0);
        y.say(0);
        best("it is said, it stands open", y, 0, 13, 0, 0);
        y.say(0);
        best("it has gone by", y, 0, 11, 2, 0);
        y.hour(2);
        best("the last", y, 0, 11, 3, 0);
        y.no(0, 0);
        best("told", y, 0, Check.NONE, Check.NONE, Check.NONE);
        Check.is("what 3", x.best(0, 3), Check.OUTSIDE);
        Check.is("what -1", x.best(0, -1), Check.OUTSIDE);
        Check.is("what 3, told", y.best(0, 3), Check.OUTSIDE);
        Check.is("guest 1", x.best(1, 3), Check.UNKNOWN);
        Check.is("guest -1", x.best(-1, 0), Check.UNKNOWN);
    }

    private static void bestOfLikeOnes() {
        best("first claim, least host", Check.evening("t0;g0 5,4,3;h0 1;h0 1;"), 0, 5, 0, 0);
        best("first claim ahead of least host", Check.evening("t0;g0 5,5;h3 1;h0 1;"), 0, 6, 1, 1);
        // Daughter: 9 - 9 + 0, 9 - 4 + 1; plain: 6 + 0 at the first claim.
        best("claim first", Check.evening("t0;g0 6,4;h3 1;h0 1;"), 0, 6, 0, 1);
        best("of nothing much", Check.evening("t0;g0 0;h0 1;h1 1;"), 0, 0, 0, 0);
    }

    private static void bestOfNone() {
        best("no hosts", Check.evening("t0;g0 5;"), 0, Check.NONE, Check.NONE, Check.NONE);
        best("no noes", Check.evening("t0;g0 5;h0 0;"), 0, Check.NONE, Check.NONE, Check.NONE);
        best("who has a no", Check.evening("t0;g0 5;h0 0;h1 1;"), 0, 2, 0, 1);
        GuestNoes x = Check.evening("t0;g0 5;g0 6;h0 1;");
        x.hour(1);
        x.no(0, 1);
        best("none left", x, 0, Check.NONE, Check.NONE, Check.NONE);
        best("another not said yet", Check.evening("t0;g0 5,9;h0 1;"), 0, 10, 1, 0);
    }

    private static void plan(String text, int joy, int... hosts) {
        GuestNoes x = Check.evening(text);
        Check.is("plan of " + text, x.plan(-1), joy);
        for (int g = 0; g < hosts.length; g++) {
            Check.is("host of " + g + " in " + text, x.plan(g), hosts[g]);
        }
        Check.is("plan of no guest", x.plan(hosts.length), Check.UNKNOWN);
        Check.is("plan(-2)", x.plan(-2), Check.UNKNOWN);
    }

    private static void plans() {
        plan(Check.MOOR, 44, 1, 0, 1, 2);
        plan("t0;g0 5;g0 9;h0 1;h3 1;", 13, 1, 0);
        plan("t0;g0 1;g0 9;h0 1;", 9, -1, 0);
        plan("t0;g0 1;g0 9;g0 8;h0 2;", 17, -1, 0, 0);
        plan("t0;g0 5;g0 6;", 0, -1, -1);
        plan("t0;g0 5;g0 6;h0 0;h0 9;", 11, 1, 1);
        plan("t0;h0 1;", 0);
        plan("t255;g9 0,19,28,37,46,55;g9 9,9,9,9,9,9;g0 0;g5 70,71,72;g1 44,45;g0 60,69;h3 9;h2 2;h1 1;h0 0;",
            76, 0, 1, 0, 0, 0, 0);
        plan("t0;g0 9;g0 9;g0 9;g0 9;g0 9;g0 9;h0 1;h1 1;h2 1;h3 1;", 27, 0, 1, 2, 3, -1, -1);
    }

    private static void planOfLikeOnes() {
        plan("t0;g0 0;h0 1;", 0, 0);
        plan("t0;g0 0;g0 0;h0 1;", 0, 0, -1);
        plan("t0;g0 4;g0 4;h0 1;h0 1;", 8, 0, 1);
        plan("t0;g0 4;g0 4;h0 2;h0 2;", 8, 0, 0);
        plan("t1;g4 9,15;g4 9,15;h2 1;h3 2;", 16, 0, 1);
    }

    private static void planFromNow() {
        GuestNoes x = Check.evening("t0;g0 9,1;g0 3,4;g0 2;h0 1;h0 1;");
        Check.is("at first", x.plan(-1), 14);
        x.hour(1);
        Check.is("stands open", x.plan(-1), 14);
        x.hour(1);
        Check.is("gone by", x.plan(-1), 7);
        // The first and the third guest bring 2 each: of these plans the one that tells the first.
        Check.is("whose", x.plan(0), 0);
        Check.is("whose", x.plan(1), 1);
        Check.is("whose", x.plan(2), Check.NONE);
        x.bed(1);
        Check.is("in bed", x.plan(-1), 7);
        x.no(1, 0);
        Check.is("one told", x.plan(-1), 5);
        Check.is("told", x.plan(0), Check.NONE);
        Check.is("the other", x.plan(1), 0);
        Check.is("for the third none", x.plan(2), Check.NONE);
    }

    private static void lines() {
        GuestNoes x = Check.evening("t1;g4 0,9,10,19;g0 79;h3 1;h0 0;");
        Check.is("daughter", x.line(0, 0), 13000);
        Check.is("plain, without noes, none ahead", x.line(0, 1), 13000);
        Check.is("one claim", x.line(1, 1), 9000);
        x.say(0);
        Check.is("of those left", x.line(0, 0), 9000);
        x.hour(1);
        x.no(0, 0);
        Check.is("told makes no difference", x.line(0, 0), 9000);
        x.say(0);
        Check.is("the last", x.line(0, 0), 0);
        Check.is("the last", x.line(0, 1), 9000);
        x.say(0);
        Check.is("none left", x.line(0, 1), 0);
        Check.is("none left", x.line(1, 1), 0);
        Check.is("guest 2", x.line(2, 0), Check.UNKNOWN);
        Check.is("guest -1", x.line(-1, 0), Check.UNKNOWN);
        Check.is("host 2", x.line(0, 2), Check.UNKNOWN);
        Check.is("host -1", x.line(0, -1), Check.UNKNOWN);
        Check.is("six", Check.evening("t0;g0 1,2,3,4,5,6;h0 1;").line(0, 0), 6000);
    }

    private static void nows() {
        GuestNoes x = Check.evening("t1;g4 0,9,10,19,19;g0 5;h0 1;h3 1;");
        int[] due = {0, 1, 0, 0, 0};
        for (int k = 0; k < 5; k++) {
            Check.is("now " + k, x.now(0, 0, k), due[k]);
        }
        Check.is("the next is better", Check.evening("t0;g0 2,6;h0 1;").now(0, 0, 0), 0);
        Check.is("the one ahead is better", Check.evening("t0;g0 6,2;h0 1;").now(0, 0, 1), 0);
        Check.is("daughter", x.now(0, 1, 0), 1);
        Check.is("daughter", x.now(0, 1, 2), 0);
        Check.is("the only one", x.now(1, 1, 0), 1);
        Check.is("no claim", x.now(0, 0, 5), Check.NOT);
        Check.is("no claim", x.now(1, 0, 1), Check.NOT);
        Check.is("k 6", x.now(0, 0, 6), Check.OUTSIDE);
        Check.is("k -1", x.now(0, 0, -1), Check.OUTSIDE);
        Check.is("guest 2", x.now(2, 0, 6), Check.UNKNOWN);
        Check.is("guest -1", x.now(-1, 0, 0), Check.UNKNOWN);
        Check.is("host 2", x.now(0, 2, -1), Check.UNKNOWN);
        Check.is("host -1", x.now(0, -1, 0), Check.UNKNOWN);
        x.say(0);
        Check.is("said", x.now(0, 0, 0), Check.NOT);
        x.say(0);
        Check.is("as much as waiting", x.now(0, 0, 3), 1);
        Check.is("as much as waiting", x.now(0, 0, 4), 1);
        Check.is("less", x.now(0, 0, 2), 0);
    }

    private static void agreeing() {
        GuestNoes x = Check.moor();
        int[][] due = {{0, 1, 5, 0}, {1, 0, 1, 0}, {5, 1, 0, 0}, {0, 0, 0, 0}};
        for (int g = 0; g < 4; g++) {
            for (int q = 0; q < 4; q++) {
                Check.is("agree(" + g + ", " + q + ")", x.agree(g, q), g == q ? Check.UNKNOWN : due[g][q]);
            }
        }
        Check.is("agree(0, 4)", x.agree(0, 4), Check.UNKNOWN);
        Check.is("agree(-1, 0)", x.agree(-1, 0), Check.UNKNOWN);
        Check.is("agree on the last", Check.evening("t0;g0 70;g0 79;").agree(0, 1), 128);
    }

    private static void boldest() {
        GuestNoes x = Check.moor();
        int[] due = {2, 0, 0, 1, -1, -1, -1, 3};
        for (int topic = 0; topic < 8; topic++) {
            Check.is("boldest(" + topic + ")", x.boldest(topic), due[topic]);
        }
        Check.is("of like ones", Check.evening("t0;g0 15;g0 15,19;g0 19;").boldest(1), 1);
        Check.is("not bold at all", Check.evening("t0;g0 1;g0 10;").boldest(1), 1);
        Check.is("boldest(8)", x.boldest(8), Check.OUTSIDE);
        Check.is("boldest(-1)", x.boldest(-1), Check.OUTSIDE);
    }

    private static void dryWeeks() {
        GuestNoes x = new GuestNoes();
        Check.is("no hour", x.dry(0, 0), 1000000000);
        Check.is("no hope", x.dry(1, 0), 0);
        Check.is("sure", x.dry(60, 100), 1000000000);
        Check.is("three", x.dry(3, 33), 35937000);
        Check.is("seven, cut at each", x.dry(7, 33), 426184);
        Check.is("sixty", x.dry(60, 99), 547156620);
        Check.is("hardly", x.dry(60, 1), 0);
        Check.is("n 61", x.dry(61, 50), Check.OUTSIDE);
        Check.is("n -1", x.dry(-1, 50), Check.OUTSIDE);
        Check.is("q 101", x.dry(1, 101), Check.OUTSIDE);
        Check.is("q -1", x.dry(1, -1), Check.OUTSIDE);
    }

    private static void meanly() {
        GuestNoes x = Check.evening("t0;g0 5,9,3;g0 5,4;g0 8,2;g0 7,9;h0 2;");
        x.hour(1);
        x.no(0, 0);
        Check.is("a later one had pleased more", x.told(14), 1);
        x.no(0, 1);
        Check.is("as much is not mean", x.told(14), 1);
        x.hour(1);
        x.share(2, 0);
        Check.is("an earlier one, shared", x.told(14), 5);
        x.share(3, 0);
        Check.is("the whole joy counts, not the half", x.told(14), 5);
        x.bed(0);
        Check.is("in bed", x.told(14), 5);
        x.anew();
        Check.is("nobody", x.told(14), 0);
        // By the plain one it were more at claim 1, but he was told by the daughter.
        GuestNoes y = Check.evening("t0;g0 5,9;h3 1;h0 1;");
        y.hour(1);
        y.no(0, 0);
        Check.is("by the same host", y.told(14), 0);
    }

    private static void leastPleased() {
        GuestNoes x = Check.evening("t0;g0 5;g0 4;g0 4;g0 7;g0 0;h0 2;");
        Check.is("nobody", x.told(15), Check.NONE);
        x.hour(1);
        x.no(0, 0);
        Check.is("the only one", x.told(15), 0);
        x.no(0, 2);
        Check.is("less", x.told(15), 2);
        x.share(3, 0);
        Check.is("the whole joy counts, not the half", x.told(15), 2);
        x.share(1, 0);
        Check.is("of like ones the least", x.told(15), 1);
        x.share(4, 0);
        Check.is("with none at all", x.told(15), 4);
    }

    private static void nothingChanges() {
        GuestNoes x = Check.moor();
        x.hour(2);
        x.no(1, 0);
        x.hear(0, true);
        x.write(0, 1);
        String was = Check.state(x);
        for (int g = 0; g < 4; g++) {
            x.joy(g, 1, 1);
            x.best(g, 2);
            x.plan(g);
            x.line(g, 2);
            x.now(g, 2, 3);
            x.agree(g, 3 - g);
            x.boldest(g);
            x.dry(g, 50);
            x.couldBe();
            x.ask();
            x.judge();
        }
        Check.same("after all that is tried", Check.state(x), was);
    }
}
