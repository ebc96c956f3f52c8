/** Section 2: guests, JOY, and what deeds do. */
final class NightEdges {
    private static final String PLACE = "2";
    private static final int[] HALVES = {0, 0, 1, 1, 2, 2, 3, 3, 4, 4};

    private NightEdges() {
    }

    static void run() {
        atFirst();
        plainJoy();
        mildJoy();
        learnedJoy();
        daughtersJoy();
        prideAndAhead();
        saying();
        whoCanBeTold();
        noesLeft();
        atTheLastSaid();
        gladAtMost();
        sharing();
        halves();
        nobodyHasLess();
        gladAtMostBySharing();
        toBed();
        insultsAtMost();
        comesDown();
        otherOnesSay();
        hoursAreMore();
        newEvening();
    }

    private static void says(String words) {
        Document.says(PLACE, words);
    }

    private static void atFirst() {
        says("A GUEST has SAID so many of his CLAIMS (0 at first), is up (at first) or in BED, was TOLD by a HOST at a CLAIM, or not yet (at first).");
        GuestNoes x = Check.evening("t0;" + "g1 2,3;".repeat(6) + "h0 9;");
        for (int g = 0; g < 6; g++) {
            Check.is("said", x.guest(g, 2), 0);
            Check.is("told by", x.guest(g, 3), Check.NONE);
            Check.is("told at", x.guest(g, 4), Check.NONE);
        }
        Check.is("up", x.told(9), 63);
        Check.is("told", x.told(10), 0);
        Check.is("walks", x.told(11), 0);
    }

    // ---- JOY

    /** One guest without pride: a claim that is true, then one that is not, for which one is ahead of it. */
    private static GuestNoes bold(int bold) {
        return Check.evening("t1;g0 " + bold + ",1" + bold + ";h0 1;h1 1;h2 1;h3 1;");
    }

    private static void plainJoy() {
        says("0 (plain): BOLD.");
        for (int b = 0; b < 10; b++) {
            Check.is("true, bold " + b, bold(b).joy(0, 0, 0), b);
            Check.is("not true, bold " + b, bold(b).joy(0, 0, 1), b + 1);
        }
    }

    private static void mildJoy() {
        says("1 (mild): half of BOLD (cut).");
        for (int b = 0; b < 10; b++) {
            Check.is("true, bold " + b, bold(b).joy(0, 1, 0), HALVES[b]);
            Check.is("not true, bold " + b, bold(b).joy(0, 1, 1), HALVES[b] + 1);
        }
    }

    private static void learnedJoy() {
        says("2 (learned): BOLD, and 5, if the TOPIC is not TRUE, else 3 less (0 at least).");
        int[] whenTrue = {0, 0, 0, 0, 1, 2, 3, 4, 5, 6};
        for (int b = 0; b < 10; b++) {
            Check.is("true, bold " + b, bold(b).joy(0, 2, 0), whenTrue[b]);
            Check.is("not true, bold " + b, bold(b).joy(0, 2, 1), b + 5 + 1);
        }
        // The 0 at least is ahead of what pride and claims said bring.
        GuestNoes x = Check.evening("t1;g9 0,1;h2 1;");
        Check.is("pride behind the cut", x.joy(0, 0, 0), 9);
        Check.is("and those ahead", x.joy(0, 0, 1), 10);
    }

    private static void daughtersJoy() {
        says("3 (the daughter): 9 less BOLD.");
        for (int b = 0; b < 10; b++) {
            Check.is("true, bold " + b, bold(b).joy(0, 3, 0), 9 - b);
            Check.is("not true, bold " + b, bold(b).joy(0, 3, 1), 9 - b + 1);
        }
    }

    private static void prideAndAhead() {
        says("To this comes PRIDE, if the TOPIC is TRUE; and how many CLAIMS he SAID ahead of it.");
        for (int pride = 0; pride < 10; pride++) {
            GuestNoes x = Check.evening("t129;g" + pride + " 5,15,75,65,5,15;h0 1;");
            for (int k = 0; k < 6; k++) {
                boolean isTrue = k == 0 || k == 2 || k == 4;
                Check.is("pride " + pride + ", claim " + k, x.joy(0, 0, k), 5 + k + (isTrue ? pride : 0));
            }
        }
        Check.is("least of all", Check.evening("t0;g0 0;h0 1;").joy(0, 0, 0), 0);
        Check.is("most of all", Check.evening("t1;g9 0,0,0,0,0,0;h3 1;").joy(0, 0, 5), 23);
    }

    // ---- deeds

    private static void saying() {
        says("SAID: a GUEST who is up says his next CLAIM.");
        GuestNoes x = Check.evening("t0;g0 1,2,3,4,5,6;g0 1;");
        for (int k = 0; k < 6; k++) {
            Check.is("next", x.say(0), k);
            Check.is("so many said", x.guest(0, 2), k + 1);
        }
        Check.is("no seventh", x.say(0), Check.NOT);
        x.bed(1);
        Check.is("who is not up", x.say(1), Check.NOT);
        Check.is("nothing said", x.guest(1, 2), 0);
    }

    private static void whoCanBeTold() {
        says("tells a GUEST who is up, was not TOLD yet");
        GuestNoes x = Check.evening("t0;g0 1,2;g0 3,4;h0 2;h1 2;");
        x.hour(1);
        x.bed(0);
        Check.is("not up", x.no(0, 0), Check.NOT);
        Check.is("up", x.no(0, 1), 3);
        Check.is("told, by the same", x.no(0, 1), Check.NOT);
        Check.is("told, by another", x.no(1, 1), Check.NOT);
        x.hour(1);
        Check.is("he says another, but was told", x.no(1, 1), Check.NOT);
        Check.is("who came down", x.no(1, 0), 0);
    }

    private static void noesLeft() {
        says("NO: a HOST who has a NO left");
        for (int n = 0; n <= 9; n++) {
            GuestNoes x = Check.evening("t0;" + "g0 5;".repeat(6) + "h0 " + n + ";h1 9;");
            x.hour(1);
            for (int g = 0; g < 6; g++) {
                Check.is(n + " noes, guest " + g, x.no(0, g), g < n ? 5 : Check.NOT);
                Check.is(n + " noes, left", x.host(0, 2), Math.max(0, n - g - 1));
            }
            Check.is("the other has all", x.host(1, 2), 9);
            Check.is("as was told of him", x.host(0, 1), n);
        }
    }

    private static void atTheLastSaid() {
        says("at the CLAIM he SAID last: GLAD (of all) is his JOY more");
        for (int k = 0; k < 6; k++) {
            GuestNoes x = Check.evening("t0;g0 9,8,7,6,5,4;g0 3;h0 2;");
            for (int i = 0; i <= k; i++) {
                x.say(0);
            }
            Check.is("joy", x.no(0, 0), 9);
            Check.is("at", x.guest(0, 4), k);
            Check.is("glad", x.told(7), 9);
            x.say(1);
            x.no(0, 1);
            Check.is("glad of all", x.told(7), 12);
        }
    }

    /** Six guests, the last claim of each brings 23, by the daughter, who has nine noes. */
    private static final String PROUD = "t1;" + "g9 0,0,0,0,0,0;".repeat(6) + "h3 9;";

    private static GuestNoes gladNearlyAtMost() {
        GuestNoes x = Check.evening(PROUD);
        // 7246 evenings of 6 times 23: 999948. What comes behind the 512th call is free; this class goes on
        // as ahead of it, and the bound cannot be seen otherwise.
        for (int evening = 0; evening < 7246; evening++) {
            for (int g = 0; g < 6; g++) {
                for (int k = 0; k < 6; k++) {
                    x.say(g);
                }
                x.no(0, g);
            }
            x.anew();
        }
        Check.is("nearly", x.told(7), 999948);
        for (int g = 0; g < 6; g++) {
            for (int k = 0; k < 6; k++) {
                x.say(g);
            }
        }
        return x;
    }

    private static void gladAtMost() {
        says("is his JOY more (999999 at most); the HOST has one NO less.");
        GuestNoes x = gladNearlyAtMost();
        x.no(0, 0);
        x.no(0, 1);
        Check.is("not yet", x.told(7), 999994);
        Check.is("his joy is whole", x.no(0, 2), 23);
        Check.is("at most", x.told(7), 999999);
        Check.is("one no less", x.host(0, 2), 6);
        Check.is("still whole", x.no(0, 3), 23);
        Check.is("still at most", x.told(7), 999999);
        x.undo(2);
        Check.is("undone", x.told(7), 999994);
    }

    private static void sharing() {
        says("SHARED: a GUEST who is up, was not TOLD, shares the NO of one who was: he is TOLD by the same HOST at his own CLAIM he SAID last");
        GuestNoes x = Check.evening("t0;g0 8;g0 1,9,2;g0 5;g0 5;h0 1;h1 1;");
        x.hour(1);
        Check.is("of one who was not told", x.share(1, 0), Check.NOT);
        x.no(1, 0);
        x.say(1);
        Check.is("half of 5", x.share(1, 0), 2);
        Check.is("same host", x.guest(1, 3), 1);
        Check.is("his own claim", x.guest(1, 4), 1);
        Check.is("was told", x.share(1, 0), Check.NOT);
        x.bed(2);
        Check.is("not up", x.share(2, 0), Check.NOT);
        x.bed(0);
        Check.is("of one in bed", x.share(3, 0), 1);
        x.hour(1);
        Check.is("of one who shared himself", x.share(2, 3), 1);
        Check.is("the same host again", x.guest(2, 3), 1);
    }

    private static void halves() {
        says("GLAD is half of that JOY more (cut)");
        for (int b = 0; b < 10; b++) {
            GuestNoes x = Check.evening("t0;g0 6;g0 " + b + ";h0 1;");
            x.hour(1);
            x.no(0, 0);
            Check.is("half of " + b, x.share(1, 0), HALVES[b]);
            Check.is("glad", x.told(7), 6 + HALVES[b]);
        }
    }

    private static void nobodyHasLess() {
        says("nobody has a NO less.");
        GuestNoes x = Check.evening("t0;g0 6;g0 4;h0 1;h1 9;");
        x.hour(1);
        x.no(0, 0);
        Check.is("none is left, yet it is shared", x.share(1, 0), 2);
        Check.is("still none", x.host(0, 2), 0);
        Check.is("the other has all", x.host(1, 2), 9);
    }

    private static void gladAtMostBySharing() {
        says("(999999 at most)");
        GuestNoes x = gladNearlyAtMost();
        x.no(0, 0);
        x.no(0, 1);
        Check.is("his half is whole", x.share(2, 0), 11);
        Check.is("at most", x.told(7), 999999);
        Check.is("his half is whole", x.share(3, 0), 11);
        Check.is("still at most", x.told(7), 999999);
    }

    private static void toBed() {
        says("BED: a GUEST who is up goes to BED; if he was not TOLD, INSULTS are one more");
        GuestNoes x = Check.evening("t0;g0 6;g0 4;g0 2;h0 1;");
        x.say(0);
        x.no(0, 0);
        x.say(1);
        x.share(1, 0);
        Check.is("told", x.bed(0), 0);
        Check.is("shared one", x.bed(1), 0);
        Check.is("no insult", x.told(8), 0);
        Check.is("not told", x.bed(2), 1);
        Check.is("an insult", x.told(8), 1);
        Check.is("nobody is up", x.told(9), 0);
        Check.is("who walks", x.told(11), 4);
        Check.is("in bed", x.bed(2), Check.NOT);
        Check.is("no other insult", x.told(8), 1);
    }

    private static void allToBed(GuestNoes x) {
        for (int g = 0; g < 6; g++) {
            x.bed(g);
        }
    }

    private static void insultsAtMost() {
        says("INSULTS are one more (999999 at most) and he WALKS.");
        GuestNoes x = Check.evening(PROUD);
        // Six a time: 83333 evenings, and as many hours, are 999996. As with GLAD, this is behind the 512th call.
        for (int i = 0; i < 83333; i++) {
            allToBed(x);
            x.anew();
            allToBed(x);
            x.hour(1);
        }
        Check.is("nearly", x.told(8), 999996);
        for (int g = 0; g < 6; g++) {
            Check.is("he walks", x.bed(g), 1);
            Check.is("insults", x.told(8), Math.min(999999, 999997 + g));
        }
        Check.is("all walk", x.told(11), 63);
        x.undo(4);
        Check.is("undone", x.told(8), 999998);
    }

    private static void comesDown() {
        says("An HOUR: each GUEST who WALKS comes down: is up, WALKS no more");
        GuestNoes x = Check.evening("t0;" + "g0 6,5,4;".repeat(6) + "h0 1;");
        x.say(1);
        x.no(0, 1);
        allToBed(x);
        Check.is("walk", x.told(11), 61);
        x.hour(1);
        Check.is("up", x.told(9), 61);
        Check.is("nobody walks", x.told(11), 0);
        x.hour(5);
        Check.is("who was told sleeps on", x.told(9), 61);
    }

    private static void otherOnesSay() {
        says("each other one who is up ahead of it and has CLAIMS left says the next");
        GuestNoes x = Check.evening("t0;g0 1,2,3,4,5,6;g0 1,2;g0 1,2,3;g0 1,2,3;h0 2;");
        x.say(1);
        x.say(1);
        x.say(2);
        x.no(0, 2);
        x.bed(3);
        x.hour(1);
        Check.is("up", x.guest(0, 2), 1);
        Check.is("has none left", x.guest(1, 2), 2);
        Check.is("was told, but is up", x.guest(2, 2), 2);
        Check.is("comes down only", x.guest(3, 2), 0);
        x.bed(2);
        x.hour(20);
        Check.is("no seventh", x.guest(0, 2), 6);
        Check.is("in bed he says none", x.guest(2, 2), 2);
        Check.is("he who came down", x.guest(3, 2), 3);
    }

    private static void hoursAreMore() {
        says("HOURS are one more.");
        GuestNoes x = Check.evening("t0;");
        Check.is("one", x.hour(1), 1);
        Check.is("one more", x.hour(1), 2);
        Check.is("told", x.told(5), 2);
        Check.is("evenings are not", x.told(6), 0);
    }

    private static void newEvening() {
        says("A NEW EVENING: all are up, nobody is TOLD, WALKS, nothing is SAID, all HOSTS have all NOES; "
            + "GLAD, INSULTS, HOURS go on; EVENINGS are one more.");
        GuestNoes x = Check.evening("t0;" + "g0 6,5,4;".repeat(6) + "h0 4;h1 9;h2 0;h3 1;");
        x.hour(2);
        for (int g = 0; g < 4; g++) {
            x.no(0, g);
        }
        x.no(3, 4);
        allToBed(x);
        int glad = x.told(7);
        Check.is("glad", glad, 4 * 6 + 5);
        x.anew();
        Check.is("all are up", x.told(9), 63);
        Check.is("nobody is told", x.told(10), 0);
        Check.is("nobody walks", x.told(11), 0);
        for (int g = 0; g < 6; g++) {
            Check.is("nothing is said", x.guest(g, 2), 0);
            Check.is("by no host", x.guest(g, 3), Check.NONE);
            Check.is("at no claim", x.guest(g, 4), Check.NONE);
        }
        int[] noes = {4, 9, 0, 1};
        for (int h = 0; h < 4; h++) {
            Check.is("all noes", x.host(h, 2), noes[h]);
        }
        Check.is("glad goes on", x.told(7), glad);
        Check.is("insults go on", x.told(8), 1);
        Check.is("hours go on", x.told(5), 2);
        Check.is("evenings", x.told(6), 1);
        Check.is("nobody was told meanly", x.told(14), 0);
        Check.is("nobody is least pleased", x.told(15), Check.NONE);
        Check.is("all can be told again", x.say(0) * 0 + x.no(0, 0), 6);
    }
}
