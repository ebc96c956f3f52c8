/** What all tests of the project share: counting what is not as due, and evenings to begin with. */
final class Check {
    /** Four guests (the third is right in all he says) and one host of each kind, the last without noes. */
    static final String MOOR = "t5;g3 5,28,11;g0 39,2;g9 7,20,25,3;g2 79;h0 1;h1 2;h2 1;h3 0;";

    static final int NONE = -1;
    static final int UNKNOWN = -1000000001;
    static final int OUTSIDE = -1000000002;
    static final int NOT = -1000000003;
    static final int FULL = -1000000004;

    /** Numbers that are out of all bounds, and would wrap around where somebody counts with them. */
    private static final int[] FAR_OFF = {Integer.MIN_VALUE, Integer.MIN_VALUE + 1, UNKNOWN, -64, -32, Integer.MAX_VALUE};

    private static String about = "";
    private static int made = 0;
    private static int wrong = 0;

    private Check() {
    }

    /** A call with all but one of its numbers settled. */
    interface Call {
        int of(int v);
    }

    /** What the checks from here on are about; it stands ahead of what they print. */
    static void about(String sentence) {
        about = sentence + ": ";
    }

    static int made() {
        return made;
    }

    static void is(String what, long got, long want) {
        made++;
        if (got != want) {
            wrong++;
            System.out.println(about + what + " answered " + got + ", due is " + want);
        }
    }

    static void same(String what, String got, String want) {
        made++;
        if (!got.equals(want)) {
            wrong++;
            System.out.println(about + what + ": it is\n  " + got + "\ndue is\n  " + want);
        }
    }

    static void holds(String what, boolean so) {
        made++;
        if (!so) {
            wrong++;
            System.out.println(about + what + ": not so");
        }
    }

    /** Beyond its bounds a number is OUTSIDE; at them it is not. */
    static void bounds(String what, int least, int most, Call call) {
        holds(what + ": " + least + " is not outside", call.of(least) != OUTSIDE);
        holds(what + ": " + most + " is not outside", call.of(most) != OUTSIDE);
        is(what + ": " + (least - 1), call.of(least - 1), OUTSIDE);
        if (most < Integer.MAX_VALUE) {
            is(what + ": " + (most + 1), call.of(most + 1), OUTSIDE);
        }
        for (int v : FAR_OFF) {
            if (v < least || v > most) {
                is(what + ": " + v, call.of(v), OUTSIDE);
            }
        }
    }

    /** Of so many, those from 0 on are known, others are UNKNOWN. */
    static void known(String what, int count, Call call) {
        for (int v = 0; v < count; v++) {
            holds(what + ": " + v + " is known", call.of(v) != UNKNOWN);
        }
        for (int v = count; v < 40; v++) {
            is(what + ": " + v, call.of(v), UNKNOWN);
        }
        for (int v : FAR_OFF) {
            is(what + ": " + v, call.of(v), UNKNOWN);
        }
        is(what + ": -2", call.of(-2), UNKNOWN);
    }

    /** Ends the test's process: with 1 if anything was not as due, or if nothing was looked at. */
    static void end(String name) {
        System.out.println(name + ": " + (made - wrong) + " of " + made + " as due");
        System.exit(wrong == 0 && made > 0 ? 0 : 1);
    }

    static boolean isAllAsDue() {
        return wrong == 0;
    }

    static void feedAll(GuestNoes x, String text) {
        for (int i = 0; i < text.length(); i++) {
            x.feed(text.charAt(i));
        }
    }

    /** What evening() answers for a text. */
    static int read(GuestNoes x, String text) {
        feedAll(x, text);
        return x.evening();
    }

    static GuestNoes evening(String text) {
        GuestNoes x = new GuestNoes();
        read(x, text);
        return x;
    }

    static GuestNoes moor() {
        return evening(MOOR);
    }

    /** All that can be seen without a change, in some 70 calls; THE SEED is put back. */
    static String state(GuestNoes x) {
        StringBuilder all = new StringBuilder();
        for (int what = 0; what <= 18; what++) {
            all.append(x.told(what)).append(' ');
        }
        for (int g = 0; g < x.told(1); g++) {
            all.append("| ");
            for (int what = 0; what <= 5; what++) {
                all.append(x.guest(g, what)).append(' ');
            }
        }
        for (int h = 0; h < x.told(2); h++) {
            all.append("| ").append(x.host(h, 0)).append(' ').append(x.host(h, 1)).append(' ').append(x.host(h, 2)).append(' ');
        }
        int seed = x.seed(0);
        x.seed(seed);
        all.append("| ").append(seed).append(' ').append(x.couldBe()).append(' ').append(x.judge()).append(' ').append(x.fault());
        return all.toString();
    }
}
