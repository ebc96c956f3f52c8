/** Promises 9 to 16: what is said, noes, who shares one, goes to bed, comes down, hours, undone. */
public final class DeedsTest {
    public static void main(String[] args) {
        saying();
        noes();
        sharing();
        beds();
        hours();
        comingDown();
        anew();
        drawnDeeds();
        driftsByHand();
        driftWithoutHosts();
        undoing();
        undoOfAll();
        thirtyAtMost();
        refusalsChangeNothing();
        Check.end("DeedsTest");
    }

    private static void saying() {
        GuestNoes x = Check.moor();
        Check.is("first", x.say(1), 0);
        Check.is("said", x.guest(1, 2), 1);
        Check.is("others", x.guest(0, 2), 0);
        Check.is("second", x.say(1), 1);
        Check.is("no third", x.say(1), Check.NOT);
        Check.is("in bed", x.bed(0) * 0 + x.say(0), Check.NOT);
        Check.is("say(-1)", x.say(-1), Check.UNKNOWN);
        Check.is("say(4)", x.say(4), Check.UNKNOWN);
        Check.is("hours do not pass", x.told(5), 0);
    }

    private static void noes() {
        GuestNoes x = Check.moor();
        Check.is("nothing said yet", x.no(0, 1), Check.NOT);
        x.hour(1);
        Check.is("plain", x.no(0, 1), 9);
        Check.is("glad", x.told(7), 9);
        Check.is("left", x.host(0, 2), 0);
        Check.is("by", x.guest(1, 3), 0);
        Check.is("at", x.guest(1, 4), 0);
        Check.is("told already", x.no(1, 1), Check.NOT);
        Check.is("none left", x.no(0, 0), Check.NOT);
        Check.is("never had one", x.no(3, 0), Check.NOT);
        x.hour(1);
        Check.is("mild, at the last", x.no(1, 0), 8);
        Check.is("who was told", x.told(10), 3);
        Check.is("learned, not true", x.no(2, 3), 14);
        Check.is("glad", x.told(7), 31);
        x.bed(2);
        Check.is("in bed", x.no(1, 2), Check.NOT);
        Check.is("no(4, 0)", x.no(4, 0), Check.UNKNOWN);
        Check.is("no(-1, 0)", x.no(-1, 0), Check.UNKNOWN);
        Check.is("no(0, 4)", x.no(0, 4), Check.UNKNOWN);
        Check.is("no(0, -1)", x.no(0, -1), Check.UNKNOWN);
        x.hour(1);
        Check.is("told, he goes on to say", x.guest(0, 2), 3);
        Check.is("at the claim of then", x.guest(0, 4), 1);
    }

    private static void sharing() {
        GuestNoes x = Check.moor();
        x.say(0);
        Check.is("of one not told", x.share(1, 0), Check.NOT);
        x.no(1, 0);
        Check.is("said nothing yet", x.share(1, 0), Check.NOT);
        x.hour(1);
        Check.is("half of 4", x.share(1, 0), 2);
        Check.is("by the same", x.guest(1, 3), 1);
        Check.is("at his own", x.guest(1, 4), 0);
        Check.is("no no less", x.host(1, 2), 1);
        Check.is("glad", x.told(7), 7);
        Check.is("told already", x.share(1, 0), Check.NOT);
        x.bed(2);
        Check.is("in bed", x.share(2, 0), Check.NOT);
        x.bed(0);
        Check.is("of one in bed, of one who shared", x.share(3, 1), 2);
        Check.is("with himself", x.share(0, 0), Check.UNKNOWN);
        Check.is("share(0, 4)", x.share(0, 4), Check.UNKNOWN);
        Check.is("share(-1, 0)", x.share(-1, 0), Check.UNKNOWN);
        Check.is("share(4, 4)", x.share(4, 4), Check.UNKNOWN);
        GuestNoes odd = Check.evening("t0;g0 1;g0 7;h0 1;");
        odd.hour(1);
        odd.no(0, 0);
        Check.is("half of 7, though none is left", odd.share(1, 0), 3);
        Check.is("glad", odd.told(7), 4);
    }

    private static void beds() {
        GuestNoes x = Check.moor();
        Check.is("not told", x.bed(0), 1);
        Check.is("insults", x.told(8), 1);
        Check.is("walks", x.told(11), 1);
        Check.is("up", x.told(9), 14);
        Check.is("in bed", x.bed(0), Check.NOT);
        x.say(1);
        x.no(0, 1);
        Check.is("told", x.bed(1), 0);
        Check.is("insults", x.told(8), 1);
        Check.is("walks", x.told(11), 1);
        Check.is("up", x.told(9), 12);
        Check.is("bed(4)", x.bed(4), Check.UNKNOWN);
        Check.is("bed(-1)", x.bed(-1), Check.UNKNOWN);
    }

    private static void hours() {
        GuestNoes x = Check.moor();
        Check.is("one", x.hour(1), 1);
        for (int g = 0; g < 4; g++) {
            Check.is("said " + g, x.guest(g, 2), 1);
        }
        Check.is("two more", x.hour(2), 3);
        Check.is("3 of 3", x.guest(0, 2), 3);
        Check.is("2 of 2", x.guest(1, 2), 2);
        Check.is("3 of 4", x.guest(2, 2), 3);
        Check.is("1 of 1", x.guest(3, 2), 1);
        Check.is("twenty", x.hour(20), 23);
        Check.is("hour(0)", x.hour(0), Check.OUTSIDE);
        Check.is("hour(21)", x.hour(21), Check.OUTSIDE);
        Check.is("hour(-1)", x.hour(-1), Check.OUTSIDE);
        Check.is("outside first", new GuestNoes().hour(21), Check.OUTSIDE);
        Check.is("no evening", new GuestNoes().hour(20), Check.NOT);
        Check.is("an evening without guests", Check.evening("t0;").hour(3), 3);
    }

    private static void comingDown() {
        GuestNoes x = Check.moor();
        x.bed(0);
        x.say(1);
        x.no(0, 1);
        x.bed(1);
        x.hour(1);
        Check.is("up: who walked", x.told(9), 13);
        Check.is("walks", x.told(11), 0);
        Check.is("says nothing in that hour", x.guest(0, 2), 0);
        Check.is("who stays in bed neither", x.guest(1, 2), 1);
        Check.is("who was up does", x.guest(2, 2), 1);
        x.hour(1);
        Check.is("then he says", x.guest(0, 2), 1);
        Check.is("who was told sleeps on", x.told(9), 13);
        Check.is("to bed again", x.bed(0), 1);
        Check.is("another insult", x.told(8), 2);
    }

    private static void anew() {
        GuestNoes x = Check.moor();
        x.hour(2);
        x.no(0, 0);
        x.bed(0);
        x.bed(1);
        Check.is("anew", x.anew(), 1);
        Check.is("hours go on", x.told(5), 2);
        Check.is("glad goes on", x.told(7), 12);
        Check.is("insults go on", x.told(8), 1);
        Check.is("all up", x.told(9), 15);
        Check.is("nobody told", x.told(10), 0);
        Check.is("nobody walks", x.told(11), 0);
        Check.is("at no claim", x.guest(0, 4), Check.NONE);
        Check.is("nothing said", x.guest(0, 2), 0);
        Check.is("all noes", x.host(0, 2), 1);
        Check.is("again", x.anew(), 2);
        Check.is("no evening", new GuestNoes().anew(), Check.NOT);
        Check.is("book and what is heard stay", x.hear(0, true) + x.write(0, -1) + 0 * x.anew(), 2);
        Check.is("heard", x.told(16), 1);
        Check.is("book", x.told(17), 1);
    }

    /** The draw as the document tells it, with no bound on its numbers. */
    private static java.math.BigInteger nextSeed(java.math.BigInteger seed) {
        return seed.multiply(java.math.BigInteger.valueOf(1103515245L)).add(java.math.BigInteger.valueOf(12345L))
            .mod(java.math.BigInteger.ONE.shiftLeft(31));
    }

    private static int drawn(java.math.BigInteger seed, int n) {
        return seed.intValueExact() / 65536 % n;
    }

    private static void drawnDeeds() {
        for (int start = 0; start < 60; start++) {
            int first = start < 40 ? start * 7919 : Integer.MAX_VALUE - start;
            GuestNoes x = Check.moor();
            x.seed(first);
            x.hour(1);
            x.drift(1);
            java.math.BigInteger a = nextSeed(java.math.BigInteger.valueOf(first));
            java.math.BigInteger b = nextSeed(a);
            java.math.BigInteger c = nextSeed(b);
            GuestNoes y = Check.moor();
            y.hour(1);
            int deed = drawn(a, 4);
            if (deed == 0 || deed == 1) {
                y.no(drawn(c, 4), drawn(b, 4));
            } else if (deed == 2) {
                y.bed(drawn(b, 4));
            }
            y.hour(1);
            y.seed(c.intValueExact());
            Check.is("one deed each hour, seed " + first, x.told(18), 2);
            x.keep(0);
            y.keep(0);
            Check.same("seed " + first, Check.state(x), Check.state(y));
        }
    }

    private static void driftsByHand() {
        GuestNoes x = Check.moor();
        x.seed(63);
        Check.is("drift(8)", x.drift(8), 8);
        Check.is("glad", x.told(7), 23);
        Check.is("insults", x.told(8), 1);
        Check.is("drift(20)", x.drift(20), 28);
        Check.is("seed", x.seed(0), 1935263499);
        Check.is("drift(0)", x.drift(0), Check.OUTSIDE);
        Check.is("drift(21)", x.drift(21), Check.OUTSIDE);
        Check.is("outside first", new GuestNoes().drift(0), Check.OUTSIDE);
        Check.is("no evening", new GuestNoes().drift(20), Check.NOT);
        GuestNoes whole = Check.moor();
        GuestNoes parts = Check.moor();
        whole.seed(4);
        parts.seed(4);
        whole.drift(15);
        for (int i = 0; i < 15; i++) {
            parts.drift(1);
        }
        Check.same("at once or one by one", Check.state(whole), Check.state(parts));
    }

    private static void driftWithoutHosts() {
        GuestNoes x = Check.evening("t0;g0 1,2;");
        x.seed(12);
        Check.is("no hosts", x.drift(2), 2);
        Check.is("no draw", x.seed(12), 12);
        Check.is("but hours", x.guest(0, 2), 2);
        Check.read(x, "t0;h0 1;");
        Check.is("no guests", x.drift(2), 2);
        Check.is("no draw", x.seed(12), 12);
    }

    private static void undoing() {
        GuestNoes x = Check.moor();
        String[] states = new String[8];
        String was = seen(x);
        states[0] = was;
        x.say(0);
        states[1] = seen(x);
        x.no(1, 0);
        states[2] = seen(x);
        x.say(3);
        states[3] = seen(x);
        x.share(3, 0);
        states[4] = seen(x);
        x.bed(1);
        states[5] = seen(x);
        x.hour(1);
        states[6] = seen(x);
        x.anew();
        Check.is("seven", x.told(18), 7);
        for (int i = 6; i >= 0; i--) {
            Check.is("undo", x.undo(1), i == 6 ? 1 : 0);
            Check.same("as ahead of deed " + i, seen(x), states[i]);
            Check.is("left to undo", x.told(18), i);
        }
        Check.is("no more", x.undo(1), Check.NOT);
    }

    /** What undo() brings back, in few calls. */
    private static String seen(GuestNoes x) {
        StringBuilder all = new StringBuilder();
        for (int what = 5; what <= 11; what++) {
            all.append(x.told(what)).append(' ');
        }
        for (int g = 0; g < 4; g++) {
            all.append(x.guest(g, 2)).append(' ').append(x.guest(g, 3)).append(' ').append(x.guest(g, 4)).append(' ');
        }
        return all.append(x.host(0, 2)).append(x.host(1, 2)).append(x.host(2, 2)).toString();
    }

    private static void undoOfAll() {
        GuestNoes x = Check.moor();
        x.hour(2);
        x.seed(4);
        x.drift(5);
        int seed = x.seed(1);
        x.seed(seed);
        x.hear(1, true);
        x.write(1, 1);
        Check.is("each hour", x.told(18), 7);
        Check.is("part of a drift", x.undo(3), 4);
        Check.is("the seed stays", x.seed(seed), seed);
        Check.is("left", x.told(18), 4);
        Check.is("not so many", x.undo(5), Check.NOT);
        Check.is("all", x.undo(4), 0);
        Check.is("heard stays", x.told(16), 1);
        Check.is("book stays", x.told(17), 1);
        Check.is("nothing left", x.undo(1), Check.NOT);
        Check.is("undo(0)", x.undo(0), Check.OUTSIDE);
        Check.is("undo(31)", x.undo(31), Check.OUTSIDE);
        Check.is("undo(-1)", x.undo(-1), Check.OUTSIDE);
        x.hour(1);
        x.undo(1);
        x.hour(3);
        Check.is("after an undo", x.told(18), 3);
        Check.is("undo two", x.undo(2), 1);
        x.hour(1);
        x.keep(0);
        Check.is("kept: nothing to undo", x.undo(1), Check.NOT);
        x.hour(1);
        Check.is("since the image", x.undo(1), 2);
        x.hour(4);
        x.goBack(0);
        Check.is("gone back: nothing to undo", x.undo(1), Check.NOT);
    }

    private static void thirtyAtMost() {
        GuestNoes x = Check.moor();
        x.hour(20);
        x.hour(10);
        Check.is("30", x.told(18), 30);
        x.hour(7);
        Check.is("still 30", x.told(18), 30);
        Check.is("undo(12)", x.undo(12), 25);
        Check.is("18", x.told(18), 18);
        x.bed(0);
        x.hour(20);
        Check.is("30 again", x.told(18), 30);
        Check.is("undo(30)", x.undo(30), 16);
        Check.is("0", x.told(18), 0);
        Check.is("no more", x.undo(1), Check.NOT);
    }

    private static void refusalsChangeNothing() {
        for (int call = 0; call < 24; call++) {
            GuestNoes x = Check.moor();
            x.seed(3);
            x.hour(1);
            x.no(1, 0);
            x.bed(0);
            x.bed(2);
            String was = Check.state(x);
            int answer = refused(x, call);
            Check.holds("call " + call + " is refused", answer <= Check.UNKNOWN && answer >= Check.FULL);
            Check.same("refused call " + call, Check.state(x), was);
            Check.is("and can be undone as before", x.undo(1), 1);
        }
    }

    private static int refused(GuestNoes x, int call) {
        switch (call) {
            case 0: return x.say(0);
            case 1: return x.say(3);
            case 2: return x.say(9);
            case 3: return x.no(0, 0);
            case 4: return x.no(3, 1);
            case 5: return x.no(0, 2);
            case 6: return x.no(9, 1);
            case 7: return x.share(2, 0);
            case 8: return x.share(1, 3);
            case 9: return x.share(1, 1);
            case 10: return x.bed(0);
            case 11: return x.bed(7);
            case 12: return x.hour(0);
            case 13: return x.hour(21);
            case 14: return x.drift(0);
            case 15: return x.drift(21);
            case 16: return x.undo(31);
            case 17: return x.undo(30);
            case 18: return x.keep(2);
            case 19: return x.goBack(2);
            case 20: return x.goBack(0);
            case 21: return x.seed(-1);
            case 22: return x.hear(8, true);
            default: return x.write(0, 4);
        }
    }
}
