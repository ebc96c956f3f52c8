import java.math.BigInteger;

/** Section 3: what is tried, what was heard, the book, draws, what is undone, images. */
final class TriedEdges {
    private static final String PLACE = "3";

    private TriedEdges() {
    }

    static void run() {
        nothingChanges();
        bestOfNotTold();
        bestOfLikeOnes();
        bestOfNone();
        planOfNotTold();
        planOfLikeOnes();
        planOfNone();
        lineOfLeft();
        lineAsIfNoneAhead();
        lineOfNone();
        nowEnough();
        right();
        wrongAt();
        agreeAndNobodys();
        boldest();
        meanly();
        leastPleased();
        heardAtMost();
        couldBe();
        askOfLikeOnes();
        askOfNone();
        dryWeeks();
        bookAtMost();
        firstFalse();
        seedAtFirst();
        seedWraps();
        drawsOnlyIfBoth();
        drawnDeeds();
        undoneAtMost();
        undoneSince();
        undoneSeedStays();
        images();
    }

    private static void says(String words) {
        Document.says(PLACE, words);
    }

    private static void nothingChanges() {
        says("TRIED from now, as nothing else is done; nothing changes by it.");
        GuestNoes x = Check.moor();
        x.seed(5);
        x.hour(2);
        x.no(1, 0);
        x.bed(3);
        x.hear(2, true);
        x.write(0, 1);
        String was = Check.state(x);
        for (int g = 0; g < 4; g++) {
            for (int h = 0; h < 4; h++) {
                x.joy(g, h, 1);
                x.line(g, h);
                x.now(g, h, 3);
            }
            x.best(g, 0);
            x.plan(g);
            x.agree(g, 3 - g);
            x.boldest(g);
        }
        x.plan(-1);
        x.dry(60, 99);
        x.couldBe();
        x.ask();
        x.judge();
        Check.same("all as it was", Check.state(x), was);
        Check.is("what can be undone too", x.undo(1), 2);
    }

    // ---- BEST

    private static void best(String what, GuestNoes x, int g, int joy, int claim, int host) {
        Check.is(what + ": how much", x.best(g, 0), joy);
        Check.is(what + ": claim", x.best(g, 1), claim);
        Check.is(what + ": host", x.best(g, 2), host);
    }

    private static void bestOfNotTold() {
        says("BEST of a GUEST not TOLD: of CLAIMS from the one he SAID last on, and HOSTS who have a NO left, the greatest JOY");
        GuestNoes x = Check.evening("t0;g0 9,5,2,1;g0 1;h0 1;h3 0;h1 1;");
        best("nothing said", x, 0, 9, 0, 0);
        x.say(0);
        best("the one said last counts", x, 0, 9, 0, 0);
        x.say(0);
        best("those ahead of it do not", x, 0, 6, 1, 0);
        x.say(0);
        x.say(0);
        best("only the last", x, 0, 4, 3, 0);
        x.say(1);
        x.no(0, 1);
        best("who has none left does not count", x, 0, 3, 3, 2);
        best("told", x, 1, Check.NONE, Check.NONE, Check.NONE);
        x.bed(0);
        best("in bed he is not told", x, 0, 3, 3, 2);
    }

    private static void bestOfLikeOnes() {
        says("(of like ones the first CLAIM, then the least HOST)");
        best("all alike", Check.evening("t0;g0 5,4,3,2,1,0;h0 1;h0 1;h0 1;h0 1;"), 0, 5, 0, 0);
        best("the first host has none", Check.evening("t0;g0 5,4,3,2,1,0;h0 0;h0 1;h0 1;h0 1;"), 0, 5, 0, 1);
        // The plain one at claim 0: 6; the daughter at claim 1: 9 - 4 + 1.
        best("first claim ahead of least host", Check.evening("t0;g0 6,4;h3 1;h0 1;"), 0, 6, 0, 1);
        best("like ones of two kinds", Check.evening("t0;g0 4;h3 1;h0 1;h2 1;h2 1;"), 0, 9, 0, 2);
        best("joy of 0", Check.evening("t0;g0 0;h0 1;h1 1;"), 0, 0, 0, 0);
    }

    private static void bestOfNone() {
        says("NONE: there is none.");
        best("no hosts", Check.evening("t0;g0 9;"), 0, Check.NONE, Check.NONE, Check.NONE);
        best("no noes", Check.evening("t0;g0 9;h0 0;h1 0;h2 0;h3 0;"), 0, Check.NONE, Check.NONE, Check.NONE);
    }

    // ---- PLAN

    private static void plan(GuestNoes x, String what, int joy, int... hosts) {
        Check.is(what + ": how much", x.plan(-1), joy);
        for (int g = 0; g < hosts.length; g++) {
            Check.is(what + ": host of " + g, x.plan(g), hosts[g]);
        }
    }

    private static void planOfNotTold() {
        says("PLAN: each GUEST who was not TOLD is TOLD by one HOST, or none, each HOST by as many NOES as are left");
        GuestNoes x = Check.evening("t0;g0 9;g0 8;g0 7;g0 6;h0 2;h0 1;");
        plan(x, "three noes for four", 24, 0, 0, 1, -1);
        x.hour(1);
        x.no(0, 3);
        plan(x, "one told", 17, 0, 1, -1, -1);
        x.share(0, 3);
        plan(x, "one shared", 15, -1, 0, 1, -1);
        x.no(0, 1);
        x.no(1, 2);
        plan(x, "all told", 0, -1, -1, -1, -1);
        GuestNoes six = Check.evening("t0;" + "g0 9;".repeat(6) + "h0 9;h0 9;h0 9;h0 9;");
        plan(six, "noes for all", 54, 0, 0, 0, 0, 0, 0);
        GuestNoes later = Check.evening("t0;g0 9,1,5;h0 1;");
        later.hour(2);
        plan(later, "from the one said last on", 7, 0);
        later.hour(1);
        plan(later, "the last", 7, 0);
        later.bed(0);
        plan(later, "in bed he is not told", 7, 0);
    }

    private static void planOfLikeOnes() {
        says("(of like plans the first: GUEST by GUEST the lesser HOST, none last)");
        plan(Check.evening("t0;g0 0;g0 0;h0 1;"), "a joy of 0 is ahead of none", 0, 0, -1);
        plan(Check.evening("t0;g0 0;g0 0;g0 0;h0 1;h0 1;"), "joys of 0", 0, 0, 1, -1);
        plan(Check.evening("t0;g0 4;g0 4;g0 4;h0 1;h0 1;"), "two for three", 8, 0, 1, -1);
        plan(Check.evening("t0;g0 4;g0 4;h0 9;h0 9;"), "the lesser for both", 8, 0, 0);
        plan(Check.evening("t0;g0 5;g0 9;h0 1;h3 1;"), "the most ahead of the first", 13, 1, 0);
        // Guest 0 by either brings 4 or 5 with guest 1 by the other: 4 + 5 and 5 + 4.
        plan(Check.evening("t0;g0 4;g0 4;h0 1;h3 1;"), "like sums", 9, 0, 1);
    }

    private static void planOfNone() {
        says("none last); NONE.");
        plan(Check.evening("t0;g0 9;g0 9;"), "no hosts", 0, -1, -1);
        plan(Check.evening("t0;g0 9;h0 0;"), "no noes", 0, -1);
        plan(Check.evening("t0;h0 9;"), "no guests", 0);
        plan(new GuestNoes(), "no evening", 0);
    }

    // ---- LINE, NOW

    private static void lineOfLeft() {
        says("LINE of a GUEST by a HOST: the CLAIMS not SAID yet come in any order, each as likely; at each the HOST can say NO, or wait");
        GuestNoes x = Check.evening("t0;g0 9,7,8,1,2,0;h0 1;");
        int[] due = {9000, 8000, 8000, 2000, 2000, 0, 0};
        for (int said = 0; said <= 6; said++) {
            Check.is("said " + said, x.line(0, 0), due[said]);
            x.say(0);
        }
    }

    private static void lineAsIfNoneAhead() {
        says("JOY as if none was SAID ahead");
        GuestNoes x = Check.evening("t2;g4 5,15,25;h0 1;h3 0;");
        Check.is("the plain one", x.line(0, 0), 9000);
        Check.is("the daughter, who has no no", x.line(0, 1), 8000);
        x.say(0);
        x.say(0);
        Check.is("the last as if it were the first", x.line(0, 0), 5000);
        Check.is("though joy is more", x.joy(0, 0, 2), 7);
    }

    /** Who waits for the best of those left has it, in whatever order they come: so it is the greatest JOY. */
    private static void lineOfNone() {
        says("a thousand times, if the HOST does best: from the last back, of each SET of CLAIMS left the mean over these (cut) "
            + "of what is more: a thousand times its JOY, or what the rest comes to (0 for none).");
        for (int seed = 0; seed < 40; seed++) {
            int[] bolds = new int[6];
            StringBuilder text = new StringBuilder("t0;g0 ");
            for (int k = 0; k < 6; k++) {
                bolds[k] = (seed * 7 + k * k * 3 + seed * k) % 10;
                text.append(k > 0 ? "," : "").append(bolds[k]);
            }
            GuestNoes x = Check.evening(text + ";h0 1;");
            for (int said = 0; said < 6; said++) {
                int most = 0;
                for (int k = said; k < 6; k++) {
                    most = Math.max(most, bolds[k]);
                }
                Check.is(text + " said " + said, x.line(0, 0), 1000 * most);
                x.say(0);
            }
            Check.is("0 for none", x.line(0, 0), 0);
        }
        Check.is("most of all", Check.evening("t1;g9 0;h3 1;").line(0, 0), 18000);
    }

    private static void nowEnough() {
        says("NOW: whether (1, 0) the HOST should say NO at a told CLAIM of these, if it comes first (as much as waiting is enough).");
        GuestNoes x = Check.evening("t0;g0 7,9,9,3,8,3;h0 1;");
        int[][] due = {{0, 1, 1, 0, 0, 0}, {-1, 1, 1, 0, 0, 0}, {-1, -1, 1, 0, 0, 0}, {-1, -1, -1, 0, 1, 0}, {-1, -1, -1, -1, 1, 0},
            {-1, -1, -1, -1, -1, 1}};
        for (int said = 0; said < 6; said++) {
            for (int k = 0; k < 6; k++) {
                Check.is("said " + said + ", claim " + k, x.now(0, 0, k), due[said][k] < 0 ? Check.NOT : due[said][k]);
            }
            x.say(0);
        }
        Check.is("a joy of 0, and nothing to wait for", Check.evening("t0;g0 0;h0 1;").now(0, 0, 0), 1);
        Check.is("joys of 0", Check.evening("t0;g0 0,0;h0 1;").now(0, 0, 1), 1);
    }

    // ---- what guests claim

    private static void right() {
        says("RIGHT: GUESTS (a SET) all of whose CLAIMS are TRUE.");
        String guests = "g0 9,79;g0 0,10;g0 70;g0 79,70,9,0,5,10;g0 1;g0 20;";
        Check.is("0 and 7 are true", Check.evening("t129;" + guests).told(12), 1 + 4 + 16);
        Check.is("all is true", Check.evening("t255;" + guests).told(12), 63);
        Check.is("nothing is true", Check.evening("t0;" + guests).told(12), 0);
        Check.is("no guests", Check.evening("t255;").told(12), 0);
        Check.is("no evening", new GuestNoes().told(12), 0);
    }

    private static void wrongAt() {
        says("WRONG AT: the first CLAIM of a GUEST that is not TRUE; NONE.");
        for (int k = 0; k < 6; k++) {
            StringBuilder text = new StringBuilder("t2;g0 ");
            for (int i = 0; i < 6; i++) {
                text.append(i > 0 ? "," : "").append(i < k ? 15 : i == k ? 25 : 5);
            }
            Check.is("wrong at " + k, Check.evening(text + ";").guest(0, 5), k);
        }
        Check.is("never", Check.evening("t2;g0 10,11,12,13,14,15;").guest(0, 5), Check.NONE);
    }

    private static void agreeAndNobodys() {
        says("AGREE of two GUESTS: TOPICS (a SET) that both claim. NOBODY'S: TOPICS (a SET) nobody claims.");
        GuestNoes x = Check.evening("t0;g0 0,10,20,30,40,50;g0 29,39,49,59,69,79;g0 5;g0 75;");
        Check.is("four", x.agree(0, 1), 60);
        Check.is("the other way", x.agree(1, 0), 60);
        Check.is("the first", x.agree(0, 2), 1);
        Check.is("the last", x.agree(1, 3), 128);
        Check.is("none", x.agree(2, 3), 0);
        Check.is("all are claimed", x.told(13), 0);
        Check.is("all but the first and the last", Check.evening("t0;g0 0,5;g0 79;").told(13), 126);
        Check.is("no guests", Check.evening("t0;h0 1;").told(13), 255);
    }

    private static void boldest() {
        says("BOLDEST of a TOPIC: the GUEST with the boldest CLAIM of it (of like ones the least); NONE.");
        GuestNoes x = Check.evening("t0;g0 3,12;g0 0,5,2;g0 5,70;g0 79;g0 78;");
        Check.is("of like ones the least", x.boldest(0), 1);
        Check.is("the only one", x.boldest(1), 0);
        Check.is("the last topic", x.boldest(7), 3);
        Check.is("nobody", x.boldest(6), Check.NONE);
        Check.is("not bold, but he claims it", Check.evening("t0;g0 9;g0 10;g0 10;").boldest(1), 1);
        Check.is("no guests", Check.evening("t0;").boldest(0), Check.NONE);
        Check.is("no evening", new GuestNoes().boldest(7), Check.NONE);
    }

    // ---- who was told meanly

    private static void meanly() {
        says("MEANLY: GUESTS (a SET) who were TOLD at a CLAIM with less JOY than by the same HOST at another CLAIM of theirs "
            + "(with how many are ahead of that).");
        GuestNoes x = Check.evening("t0;g0 5,4;g0 5,5;g0 5;g0 9,1;g0 0,0,0,0,0,6;g0 5,3;h0 9;h3 9;");
        x.hour(1);
        for (int g = 0; g < 6; g++) {
            x.no(0, g);
        }
        // As much elsewhere (guest 0) is not less; one more ahead (guest 1) is.
        Check.is("at the first", x.told(14), 2 + 16);
        x.anew();
        x.hour(2);
        x.no(0, 0);
        x.no(0, 3);
        x.no(1, 5);
        Check.is("at the second", x.told(14), 8);
        x.share(1, 3);
        Check.is("who shared at his best", x.told(14), 8);
        x.share(4, 3);
        Check.is("who shared at less", x.told(14), 8 + 16);
        GuestNoes first = Check.evening("t0;g0 5,9;g0 5;h0 9;");
        first.hour(1);
        first.no(0, 0);
        Check.is("the first guest", first.told(14), 1);
        Check.is("nobody told", Check.moor().told(14), 0);
        Check.is("no evening", new GuestNoes().told(14), 0);
    }

    private static void leastPleased() {
        says("LEAST PLEASED: the GUEST who was TOLD with least JOY; of like ones the least; NONE.");
        GuestNoes x = Check.evening("t0;g0 5;g0 4;g0 4;g0 0;g0 9;g0 4;h0 9;");
        Check.is("nobody told", x.told(15), Check.NONE);
        x.hour(1);
        x.no(0, 4);
        Check.is("the only one", x.told(15), 4);
        x.no(0, 5);
        Check.is("less", x.told(15), 5);
        x.no(0, 2);
        Check.is("of like ones the least", x.told(15), 2);
        x.no(0, 0);
        Check.is("more", x.told(15), 2);
        x.share(1, 4);
        Check.is("of like ones the least, shared", x.told(15), 1);
        x.no(0, 3);
        Check.is("a joy of 0", x.told(15), 3);
        x.anew();
        Check.is("anew", x.told(15), Check.NONE);
        x.hour(1);
        x.no(0, 0);
        Check.is("the first guest", x.told(15), 0);
        Check.is("no evening", new GuestNoes().told(15), Check.NONE);
    }

    // ---- what was heard

    private static void heardAtMost() {
        says("HEARD (6 at most): an unknown GUEST of these claims a TOPIC, or does not.");
        GuestNoes x = Check.moor();
        for (int n = 1; n <= 6; n++) {
            Check.is("heard", x.hear(n, n % 2 == 0), n);
        }
        Check.is("a seventh", x.hear(7, true), Check.FULL);
        Check.is("six", x.told(16), 6);
    }

    private static void couldBe() {
        says("COULD BE: GUESTS (a SET) by whom all that is HEARD is so.");
        GuestNoes x = Check.evening("t0;g0 0,70;g0 5;g0 70;g0 30;g0 9,79,30;g0 15;");
        Check.is("nothing heard", x.couldBe(), 63);
        x.hear(0, true);
        Check.is("claims it", x.couldBe(), 1 + 2 + 16);
        x.hear(7, false);
        Check.is("does not", x.couldBe(), 2);
        x.hear(7, true);
        Check.is("both cannot be", x.couldBe(), 0);
        x.tear();
        for (int i = 0; i < 5; i++) {
            x.hear(0, true);
        }
        x.hear(7, true);
        Check.is("the sixth counts", x.couldBe(), 1 + 16);
        Check.is("no evening", new GuestNoes().couldBe(), 0);
    }

    private static void askOfLikeOnes() {
        says("the greater part is least; of like ones the least");
        Check.is("halves ahead of all", Check.evening("t0;g0 0,70;g0 10,70;g0 20;g0 30;").ask(), 7);
        Check.is("of like halves the least", Check.evening("t0;g0 50,60;g0 50;g0 60;g0 0;").ask(), 5);
        Check.is("claimed by most", Check.evening("t0;g0 30;g0 30;g0 30;g0 40;").ask(), 3);
        Check.is("claimed by few, or by most", Check.evening("t0;g0 30;g0 40;g0 40;g0 40;").ask(), 3);
        Check.is("three of six", Check.evening("t0;g0 0;g0 0,10;g0 10;g0 10;g0 20;g0 20;").ask(), 1);
        GuestNoes x = Check.evening("t0;g0 0,10;g0 0,20;g0 30;g0 30;g0 30;");
        Check.is("of all", x.ask(), 0);
        x.hear(0, true);
        Check.is("of those who could be", x.ask(), 1);
    }

    private static void askOfNone() {
        says("NONE: none parts them.");
        Check.is("alike", Check.evening("t0;g0 0,10;g0 19,9;g0 5,15,0;").ask(), Check.NONE);
        Check.is("one", Check.evening("t0;g0 0,10;").ask(), Check.NONE);
        Check.is("no guests", Check.evening("t0;").ask(), Check.NONE);
        Check.is("no evening", new GuestNoes().ask(), Check.NONE);
        GuestNoes x = Check.moor();
        x.hear(0, true);
        x.hear(0, false);
        Check.is("nobody could be", x.ask(), Check.NONE);
    }

    // ---- odds, the book

    private static void dryWeeks() {
        says("DRY WEEK: odds of n HOURS (0 .. 60) without rain, each by q of a hundred (0 .. 100): a BILLION times q / 100 each (cut).");
        for (int n = 0; n <= 60; n++) {
            GuestNoes x = new GuestNoes();
            for (int q = 0; q <= 100; q++) {
                BigInteger odds = BigInteger.valueOf(1000000000);
                for (int i = 0; i < n; i++) {
                    odds = odds.multiply(BigInteger.valueOf(q)).divide(BigInteger.valueOf(100));
                }
                Check.is("dry(" + n + ", " + q + ")", x.dry(n, q), odds.intValueExact());
            }
        }
    }

    private static void bookAtMost() {
        says("THE BOOK (20 at most) tells who was TOLD by which HOST (NONE: not TOLD)");
        GuestNoes x = Check.moor();
        for (int n = 1; n <= 20; n++) {
            Check.is("entry", x.write(0, -1), n);
        }
        Check.is("one more", x.write(0, -1), Check.FULL);
        Check.is("twenty", x.told(17), 20);
        Check.is("he was not told", x.judge(), Check.NONE);
    }

    private static void firstFalse() {
        says("FALSE: the first that is otherwise now; NONE.");
        GuestNoes x = Check.evening("t0;g0 1;g0 1;h0 1;h0 1;");
        Check.is("no book", x.judge(), Check.NONE);
        x.hour(1);
        x.no(1, 0);
        x.write(0, 1);
        x.write(1, -1);
        Check.is("so it is", x.judge(), Check.NONE);
        x.write(0, 0);
        x.write(0, -1);
        Check.is("by another host", x.judge(), 2);
        x.no(0, 1);
        Check.is("he was told since", x.judge(), 1);
        x.anew();
        Check.is("nobody is told now", x.judge(), 0);
        x.undo(2);
        Check.is("undone", x.judge(), 2);
        for (int i = 0; i < 16; i++) {
            Check.holds("more", x.write(1, -1) > 4);
        }
        GuestNoes last = Check.evening("t0;g0 1;h0 1;");
        for (int i = 0; i < 19; i++) {
            last.write(0, -1);
        }
        last.write(0, 0);
        Check.is("the last of twenty", last.judge(), 19);
    }

    // ---- draws

    private static void seedAtFirst() {
        says("THE SEED (0 at first");
        Check.is("of a new one", new GuestNoes().seed(9), 0);
        Check.is("behind a text", Check.moor().seed(9), 0);
    }

    private static BigInteger next(BigInteger seed) {
        return seed.multiply(BigInteger.valueOf(1103515245)).add(BigInteger.valueOf(12345)).mod(BigInteger.valueOf(2147483648L));
    }

    private static void seedWraps() {
        says("each DRAW it becomes it times 1103515245 and 12345, left over by 2 to the 31; the DRAW of n is it / 65536, left over by n)");
        int[] seeds = {0, 1, 2, 65535, 65536, 1 << 30, (1 << 30) + 1, 2147483646, 2147483647, 1103515245};
        for (int seed : seeds) {
            GuestNoes x = Check.moor();
            x.seed(seed);
            BigInteger due = BigInteger.valueOf(seed);
            for (int i = 0; i < 20; i++) {
                x.drift(1);
                due = next(next(next(due)));
                int now = x.seed(0);
                x.seed(now);
                Check.is("seed " + seed + " after hour " + i, now, due.intValueExact());
            }
        }
    }

    private static void drawsOnlyIfBoth() {
        says("ahead of each, if there are GUESTS and HOSTS, a DRAW of 4, of GUESTS, of HOSTS");
        String[] texts = {"t0;", "t0;g0 1,2;", "t0;h0 1;"};
        for (String text : texts) {
            GuestNoes x = Check.evening(text);
            x.seed(2147483647);
            Check.is(text, x.drift(20), 20);
            Check.is(text + " no draw", x.seed(0), 2147483647);
            Check.is(text + " no insult", x.told(8), 0);
        }
        GuestNoes both = Check.evening("t0;g0 1;h0 1;");
        both.drift(1);
        Check.is("three draws", both.seed(0), 654583775);
    }

    /** Each hour once more by hand, with the draws as the document tells them. */
    private static void drawnDeeds() {
        says("on 0, 1 that HOST says NO to that GUEST, if it can be; on 2 he goes to BED, if he is up; on 3 nothing.");
        int[] seen = new int[4];
        for (int seed = 0; seed < 30; seed++) {
            String text = "t5;g3 5,28,11;g0 39,2;g9 7,20,25;h0 1;h1 2;";
            GuestNoes x = Check.evening(text);
            GuestNoes y = Check.evening(text);
            x.seed(seed * 7919);
            BigInteger now = BigInteger.valueOf(seed * 7919);
            for (int hour = 0; hour < 12; hour++) {
                now = next(now);
                int deed = now.intValueExact() / 65536 % 4;
                now = next(now);
                int g = now.intValueExact() / 65536 % 3;
                now = next(now);
                int h = now.intValueExact() / 65536 % 2;
                seen[deed]++;
                if (deed < 2) {
                    y.no(h, g);
                } else if (deed == 2) {
                    y.bed(g);
                }
                y.hour(1);
            }
            x.drift(12);
            y.seed(now.intValueExact());
            x.keep(0);
            y.keep(0);
            Check.same("seed " + seed, Check.state(x), Check.state(y));
        }
        for (int deed = 0; deed < 4; deed++) {
            Check.holds("deed " + deed + " was drawn", seen[deed] > 20);
        }
    }

    // ---- undone, images

    private static void undoneAtMost() {
        says("(30 at most are kept)");
        GuestNoes x = Check.evening("t0;g0 1;");
        for (int n = 1; n <= 45; n++) {
            x.hour(1);
            Check.is("can be undone", x.told(18), Math.min(30, n));
        }
        Check.is("all that is kept", x.undo(30), 15);
        Check.is("no more", x.undo(1), Check.NOT);
        GuestNoes y = Check.evening("t0;g0 1;");
        y.hour(20);
        y.hour(20);
        y.hour(20);
        for (int n = 1; n <= 30; n++) {
            Check.is("one by one", y.undo(1), 60 - n);
        }
        Check.is("no more", y.undo(1), Check.NOT);
        Check.is("hours", y.told(5), 30);
    }

    private static void undoneSince() {
        says("UNDONE: the latest deeds (each HOUR, say(), no(), share(), bed(), anew(), each HOUR BY DRAWS) since the text or IMAGE");
        GuestNoes x = Check.evening("t0;g0 1,2;g0 3;h0 2;");
        int[] answers = {x.say(0), x.say(1), x.no(0, 0), x.share(1, 0), x.bed(0), x.hour(2), x.anew(), x.drift(2)};
        Check.is("the last answer", answers[7], 4);
        Check.is("each is one, each hour too", x.told(18), 10);
        x.seed(1);
        x.hear(0, true);
        x.write(0, -1);
        x.feed('t');
        x.tear();
        Check.is("nothing else is", x.told(18), 10);
        x.undo(1);
        Check.is("an undo is none", x.told(18), 9);
        x.evening();
        Check.is("a text with a fault leaves them", x.told(18), 9);
        x.keep(0);
        Check.is("none since the image", x.told(18), 0);
        x.say(0);
        x.goBack(0);
        Check.is("none since going back", x.told(18), 0);
        x.hour(3);
        Check.read(x, "t0;g0 1;");
        Check.is("none since the text", x.told(18), 0);
    }

    private static void undoneSeedStays() {
        says("all of section 2 is as ahead of them; THE SEED stays.");
        GuestNoes x = Check.moor();
        x.hour(1);
        x.no(0, 1);
        String was = Check.state(x);
        x.drift(5);
        x.bed(0);
        x.anew();
        int seed = x.seed(0);
        x.seed(seed);
        x.undo(7);
        Check.holds("draws were made", seed != 0);
        Check.is("the seed stays", x.seed(0), seed);
        Check.same("all else is as ahead", Check.state(x), was);
    }

    private static void images() {
        says("IMAGES 0, 1 keep all of section 2, THE SEED.");
        for (int i = 0; i < 2; i++) {
            GuestNoes x = Check.moor();
            x.hour(2);
            x.no(1, 0);
            x.share(1, 0);
            x.bed(2);
            x.anew();
            x.hour(1);
            x.no(2, 3);
            x.bed(0);
            x.seed(2147483647);
            x.keep(i);
            String was = Check.state(x);
            x.drift(20);
            x.anew();
            Check.is("back", x.goBack(i), 1);
            Check.same("as it was", Check.state(x), was);
        }
    }
}
