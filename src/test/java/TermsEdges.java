import java.util.ArrayList;
import java.util.List;

/** The first paragraph of 'Terms': numbers, SETS, refusals, their order, and that they change nothing. */
final class TermsEdges {
    private static final String PLACE = "Terms";
    /** Few guests and hosts, so that many looks fit into 512 calls. */
    private static final String SMALL = "t1;g3 5,19,2;g0 12,8;h0 2;h2 1;";

    private TermsEdges() {
    }

    /** A call without numbers that are still open. */
    private interface Deed {
        int on(GuestNoes x);
    }

    private record Named(String name, Deed deed) {
    }

    static void run() {
        cutting();
        numbersFromZero();
        sets();
        none();
        unknownAheadOfOutside();
        unknownAheadOfNot();
        unknownAheadOfFull();
        outsideAheadOfNot();
        outsideAheadOfFull();
        unknownGuests();
        unknownGuestsWithoutEvening();
        unknownHosts();
        unknownImages();
        oneTwice();
        outside();
        notNow();
        full();
        farBelow();
        refusedChangesNothing();
        fullChangesNothing();
    }

    private static void says(String words) {
        Document.says(PLACE, words);
    }

    private static void cutting() {
        says("/ cuts towards 0.");
        GuestNoes x = Check.evening("t0;g0 9;g0 0;g0 1;g0 3;h1 9;h0 9;");
        x.hour(1);
        Check.is("half of 9", x.joy(0, 0, 0), 4);
        Check.is("half of 1", x.joy(2, 0, 0), 0);
        x.no(1, 0);
        Check.is("half of 0, shared", x.share(1, 0), 0);
        Check.is("half of 1, shared", x.share(2, 0), 0);
        Check.is("half of 3, shared", x.share(3, 0), 1);
    }

    private static void numbersFromZero() {
        says("What has a number has it from 0 on, as it comes.");
        GuestNoes x = Check.evening("t0;h3 4;g7 61,52;h2 5;g8 43;");
        Check.is("first guest", x.guest(0, 0), 7);
        Check.is("second guest", x.guest(1, 0), 8);
        Check.is("first host", x.host(0, 0), 3);
        Check.is("second host", x.host(1, 0), 2);
        Check.is("first claim", x.claim(0, 0, 0), 6);
        Check.is("second claim", x.claim(0, 1, 0), 5);
        Check.is("first said", x.say(0), 0);
        Check.is("second said", x.say(0), 1);
        x.write(0, 0);
        Check.is("first entry", x.judge(), 0);
        Check.is("first letter", Check.read(x, "x") * 0 + x.fault(), 0);
    }

    private static void sets() {
        says("A SET is a whole number, bit k for k.");
        for (int k = 0; k < 8; k++) {
            GuestNoes x = Check.evening("t" + (1 << k) + ";g0 " + 10 * k + ";g0 " + (10 * k + 9) + ";g0 " + 10 * (7 - k) + ";");
            Check.is("true: topic " + k, x.told(3), 1 << k);
            Check.is("right: guests 0, 1", x.told(12), 3);
            Check.is("both claim topic " + k, x.agree(0, 1), 1 << k);
            Check.is("nobody's", x.told(13), 255 - (1 << k) - (1 << 7 - k));
        }
        for (int g = 0; g < 6; g++) {
            GuestNoes x = Check.evening("t0;g0 0;g0 0;g0 0;g0 0;g0 0;g0 0;h0 6;");
            x.say(g);
            x.no(0, g);
            Check.is("told: guest " + g, x.told(10), 1 << g);
            x.bed(5 - g);
            Check.is("walks: guest " + (5 - g), x.told(11), 1 << 5 - g);
            Check.is("up: the others", x.told(9), 63 - (1 << 5 - g));
        }
    }

    private static void none() {
        says("NONE is -1.");
        Check.is("NONE", GuestNoes.NONE, -1);
        GuestNoes x = Check.evening("t1;g0 0;");
        Check.is("not told by a host", x.guest(0, 3), -1);
        Check.is("wrong at no claim", x.guest(0, 5), -1);
        Check.is("nobody is least pleased", x.told(15), -1);
        Check.is("no claim", x.claim(0, 1, 0), -1);
        Check.is("no fault", x.fault(), -1);
        Check.is("written for no host", x.write(0, -1), 1);
    }

    // ---- of several the first

    private static void unknownAheadOfOutside() {
        says("REFUSALS, of several the first in this order: UNKNOWN");
        GuestNoes x = Check.moor();
        Check.is("guest(4, 6)", x.guest(4, 6), Check.UNKNOWN);
        Check.is("guest(-1, -1)", x.guest(-1, -1), Check.UNKNOWN);
        Check.is("claim(4, 6, 0)", x.claim(4, 6, 0), Check.UNKNOWN);
        Check.is("claim(4, 0, 2)", x.claim(4, 0, 2), Check.UNKNOWN);
        Check.is("host(4, 3)", x.host(4, 3), Check.UNKNOWN);
        Check.is("host(-1, -1)", x.host(-1, -1), Check.UNKNOWN);
        Check.is("joy(4, 0, 6)", x.joy(4, 0, 6), Check.UNKNOWN);
        Check.is("joy(0, 4, 6)", x.joy(0, 4, 6), Check.UNKNOWN);
        Check.is("best(4, 3)", x.best(4, 3), Check.UNKNOWN);
        Check.is("now(4, 0, 6)", x.now(4, 0, 6), Check.UNKNOWN);
        Check.is("now(0, 4, -1)", x.now(0, 4, -1), Check.UNKNOWN);
    }

    private static void unknownAheadOfNot() {
        says("of several the first in this order: UNKNOWN");
        GuestNoes x = Check.moor();
        x.bed(0);
        Check.is("no host, and he is in bed", x.no(4, 0), Check.UNKNOWN);
        Check.is("no guest, and the host has none left", x.no(3, 4), Check.UNKNOWN);
        Check.is("himself, in bed", x.share(0, 0), Check.UNKNOWN);
        Check.is("no second guest, the first in bed", x.share(0, 4), Check.UNKNOWN);
        Check.is("no first guest, the second not told", x.share(4, 1), Check.UNKNOWN);
        Check.is("no host, no such claim", x.now(3, 4, 5), Check.UNKNOWN);
        Check.is("no image, none kept", x.goBack(2), Check.UNKNOWN);
    }

    private static void unknownAheadOfFull() {
        says("of several the first in this order");
        GuestNoes x = Check.moor();
        for (int i = 0; i < 20; i++) {
            x.write(0, -1);
        }
        Check.is("no guest, the book is full", x.write(4, -1), Check.UNKNOWN);
        Check.is("no host, the book is full", x.write(0, 4), Check.UNKNOWN);
        Check.is("both there, the book is full", x.write(0, 3), Check.FULL);
    }

    private static void outsideAheadOfNot() {
        says("OUTSIDE (another number out of its bounds), NOT (not now, as told)");
        GuestNoes x = new GuestNoes();
        Check.is("hour(0), no evening", x.hour(0), Check.OUTSIDE);
        Check.is("hour(21), no evening", x.hour(21), Check.OUTSIDE);
        Check.is("drift(0), no evening", x.drift(0), Check.OUTSIDE);
        Check.is("drift(21), no evening", x.drift(21), Check.OUTSIDE);
        Check.is("undo(31), nothing done", x.undo(31), Check.OUTSIDE);
        Check.is("undo(0), nothing done", x.undo(0), Check.OUTSIDE);
        Check.is("now(.., 6), no such claim", Check.moor().now(0, 0, 6), Check.OUTSIDE);
    }

    private static void outsideAheadOfFull() {
        says("OUTSIDE (another number out of its bounds), NOT (not now, as told), FULL.");
        GuestNoes x = new GuestNoes();
        for (int i = 0; i < 240; i++) {
            x.feed(' ');
        }
        Check.is("feed(256), the text is full", x.feed(256), Check.OUTSIDE);
        Check.is("feed(-1), the text is full", x.feed(-1), Check.OUTSIDE);
        for (int i = 0; i < 6; i++) {
            x.hear(0, true);
        }
        Check.is("hear(8), six are heard", x.hear(8, true), Check.OUTSIDE);
        Check.is("hear(-1), six are heard", x.hear(-1, false), Check.OUTSIDE);
    }

    // ---- each refusal, where it can be

    private static void unknownGuests() {
        says("UNKNOWN (a GUEST, HOST, IMAGE that there is not");
        // Three are there, six could be: what lies between has room, but nobody sits there.
        String text = "t0;g1 2,3,4;g5 6,7,8;g0 1,2,3;h0 9;h1 9;";
        knownGuests(text, 3);
        knownGuests("t0;h0 9;h1 9;", 0);
        knownGuests("t0;g0 0;g0 0;g0 0;g0 0;g0 0;g0 0;h0 9;h0 9;", 6);
        Check.is("plan(-1) is no guest", Check.evening(text).plan(-1), 21);
    }

    private static void knownGuests(String text, int count) {
        GuestNoes x = Check.evening(text);
        Check.known("guest", count, g -> x.guest(g, 0));
        Check.known("claim", count, g -> x.claim(g, 0, 0));
        Check.known("joy", count, g -> x.joy(g, 0, 0));
        Check.known("best", count, g -> x.best(g, 0));
        Check.known("plan", count, g -> x.plan(g));
        Check.known("line", count, g -> x.line(g, 0));
        Check.known("now", count, g -> x.now(g, 0, 0));
        Check.known("write", count, g -> x.write(g, -1));
        GuestNoes y = Check.evening(text);
        Check.known("say", count, y::say);
        Check.known("no", count, g -> y.no(0, g));
        Check.known("bed", count, y::bed);
        Check.is("guest(-1)", y.guest(-1, 0), Check.UNKNOWN);
        Check.is("say(-1)", y.say(-1), Check.UNKNOWN);
        Check.is("bed(-1)", y.bed(-1), Check.UNKNOWN);
        Check.is("no(0, -1)", y.no(0, -1), Check.UNKNOWN);
        Check.is("write(-1, -1)", y.write(-1, -1), Check.UNKNOWN);
        if (count > 0) {
            Check.is("write(-1, 0)", y.write(-1, 0), Check.UNKNOWN);
            Check.is("share(0, -1)", y.share(0, -1), Check.UNKNOWN);
            Check.is("share(-1, 0)", y.share(-1, 0), Check.UNKNOWN);
            Check.is("share(0, " + count + ")", y.share(0, count), Check.UNKNOWN);
            Check.is("share(" + count + ", 0)", y.share(count, 0), Check.UNKNOWN);
            Check.is("agree(0, -1)", y.agree(0, -1), Check.UNKNOWN);
            Check.is("agree(-1, 0)", y.agree(-1, 0), Check.UNKNOWN);
            Check.is("agree(0, " + count + ")", y.agree(0, count), Check.UNKNOWN);
            Check.is("agree(" + count + ", 0)", y.agree(count, 0), Check.UNKNOWN);
        }
    }

    private static void unknownGuestsWithoutEvening() {
        says("(a GUEST, HOST, IMAGE that there is not");
        GuestNoes x = Check.moor();
        Check.is("an empty text", x.evening(), 0);
        Check.is("guest(0)", x.guest(0, 0), Check.UNKNOWN);
        Check.is("claim(0)", x.claim(0, 0, 0), Check.UNKNOWN);
        Check.is("host(0)", x.host(0, 0), Check.UNKNOWN);
        Check.is("say(0)", x.say(0), Check.UNKNOWN);
        Check.is("no(0, 0)", x.no(0, 0), Check.UNKNOWN);
        Check.is("share(0, 1)", x.share(0, 1), Check.UNKNOWN);
        Check.is("bed(0)", x.bed(0), Check.UNKNOWN);
        Check.is("joy(0, 0, 0)", x.joy(0, 0, 0), Check.UNKNOWN);
        Check.is("best(0, 0)", x.best(0, 0), Check.UNKNOWN);
        Check.is("plan(0)", x.plan(0), Check.UNKNOWN);
        Check.is("line(0, 0)", x.line(0, 0), Check.UNKNOWN);
        Check.is("now(0, 0, 0)", x.now(0, 0, 0), Check.UNKNOWN);
        Check.is("agree(0, 1)", x.agree(0, 1), Check.UNKNOWN);
        Check.is("write(0, -1)", x.write(0, -1), Check.UNKNOWN);
    }

    private static void unknownHosts() {
        says("a GUEST, HOST, IMAGE that there is not");
        for (int count = 0; count <= 4; count += 2) {
            GuestNoes x = Check.evening("t0;g1 2,3,4;" + "h1 3;h2 1;h0 2;h3 9;".substring(0, 5 * count));
            Check.known("host", count, h -> x.host(h, 0));
            Check.known("joy", count, h -> x.joy(0, h, 0));
            Check.known("line", count, h -> x.line(0, h));
            Check.known("now", count, h -> x.now(0, h, 0));
            Check.known("no", count, h -> x.no(h, 0));
            Check.known("write", count, h -> x.write(0, h));
            Check.is("host(-1)", x.host(-1, 0), Check.UNKNOWN);
            Check.is("joy(0, -1)", x.joy(0, -1, 0), Check.UNKNOWN);
            Check.is("line(0, -1)", x.line(0, -1), Check.UNKNOWN);
            Check.is("now(0, -1)", x.now(0, -1, 0), Check.UNKNOWN);
            Check.is("no(-1, 0)", x.no(-1, 0), Check.UNKNOWN);
        }
    }

    private static void unknownImages() {
        says("IMAGE that there is not; bits of such");
        GuestNoes x = Check.moor();
        Check.known("keep", 2, x::keep);
        Check.known("goBack", 2, x::goBack);
        Check.is("keep(-1)", x.keep(-1), Check.UNKNOWN);
        Check.is("goBack(-1)", x.goBack(-1), Check.UNKNOWN);
    }

    private static void oneTwice() {
        says("one twice, where two are asked)");
        GuestNoes x = Check.moor();
        x.hour(1);
        x.no(0, 0);
        for (int g = 0; g < 4; g++) {
            Check.is("share(" + g + ", " + g + ")", x.share(g, g), Check.UNKNOWN);
            Check.is("agree(" + g + ", " + g + ")", x.agree(g, g), Check.UNKNOWN);
        }
        Check.is("a guest and a host of one number are two", x.no(1, 1), 4);
        Check.is("so in the book", x.write(1, 1), 1);
    }

    private static void outside() {
        says("OUTSIDE (another number out of its bounds)");
        GuestNoes x = Check.moor();
        Check.bounds("feed", 0, 255, x::feed);
        Check.bounds("told", 0, 18, x::told);
        Check.bounds("guest, what", 0, 5, what -> x.guest(0, what));
        Check.bounds("claim, k", 0, 5, k -> x.claim(0, k, 0));
        Check.bounds("claim, what", 0, 1, what -> x.claim(0, 0, what));
        Check.bounds("host, what", 0, 2, what -> x.host(0, what));
        Check.bounds("hour", 1, 20, x::hour);
        Check.bounds("drift", 1, 20, x::drift);
        Check.bounds("undo", 1, 30, x::undo);
        Check.bounds("joy, k", 0, 5, k -> x.joy(0, 0, k));
        Check.bounds("best, what", 0, 2, what -> x.best(0, what));
        Check.bounds("now, k", 0, 5, k -> x.now(0, 0, k));
        Check.bounds("boldest", 0, 7, x::boldest);
        Check.bounds("dry, n", 0, 60, n -> x.dry(n, 50));
        Check.bounds("dry, q", 0, 100, q -> x.dry(7, q));
        Check.bounds("hear, claims", 0, 7, topic -> x.hear(topic, true));
        Check.bounds("hear, does not", 0, 7, topic -> x.hear(topic, false));
        Check.bounds("seed", 0, Integer.MAX_VALUE, x::seed);
    }

    private static void notNow() {
        says("NOT (not now, as told)");
        GuestNoes x = Check.evening("t0;g0 1;h0 1;");
        Check.is("nothing said yet", x.no(0, 0), Check.NOT);
        Check.is("later it can be", x.say(0) * 0 + x.no(0, 0), 1);
        Check.is("not again", x.no(0, 0), Check.NOT);
        Check.is("anew it can be", x.anew() * 0 + x.say(0) * 0 + x.no(0, 0), 1);
    }

    private static void full() {
        says("NOT (not now, as told), FULL.");
        GuestNoes x = Check.moor();
        for (int i = 0; i < 6; i++) {
            x.hear(0, true);
        }
        for (int i = 0; i < 20; i++) {
            x.write(0, -1);
        }
        Check.is("heard", x.hear(0, true), Check.FULL);
        Check.is("the book", x.write(0, -1), Check.FULL);
        x.tear();
        Check.is("there is room again", x.hear(0, true), 1);
        Check.is("there is room again", x.write(0, -1), 1);
    }

    private static void farBelow() {
        says("They are far below all that is counted: -1000000001 and on.");
        Check.is("UNKNOWN", GuestNoes.UNKNOWN, -1000000001);
        Check.is("OUTSIDE", GuestNoes.OUTSIDE, -1000000002);
        Check.is("NOT", GuestNoes.NOT, -1000000003);
        Check.is("FULL", GuestNoes.FULL, -1000000004);
    }

    // ---- what is refused changes nothing

    private static List<Named> refusedCalls() {
        List<Named> all = new ArrayList<>();
        all.add(new Named("feed(256)", x -> x.feed(256)));
        all.add(new Named("feed(-1)", x -> x.feed(-1)));
        all.add(new Named("told(19)", x -> x.told(19)));
        all.add(new Named("guest(2, 0)", x -> x.guest(2, 0)));
        all.add(new Named("claim(0, 6, 0)", x -> x.claim(0, 6, 0)));
        all.add(new Named("host(0, 3)", x -> x.host(0, 3)));
        all.add(new Named("say: in bed", x -> x.say(1)));
        all.add(new Named("say(2)", x -> x.say(2)));
        all.add(new Named("no: told", x -> x.no(0, 0)));
        all.add(new Named("no: in bed", x -> x.no(0, 1)));
        all.add(new Named("no: none left", x -> x.no(1, 0)));
        all.add(new Named("no(2, 0)", x -> x.no(2, 0)));
        all.add(new Named("share: in bed", x -> x.share(1, 0)));
        all.add(new Named("share: told", x -> x.share(0, 1)));
        all.add(new Named("share(1, 1)", x -> x.share(1, 1)));
        all.add(new Named("bed: in bed", x -> x.bed(1)));
        all.add(new Named("bed(-1)", x -> x.bed(-1)));
        all.add(new Named("hour(0)", x -> x.hour(0)));
        all.add(new Named("hour(21)", x -> x.hour(21)));
        all.add(new Named("drift(0)", x -> x.drift(0)));
        all.add(new Named("drift(21)", x -> x.drift(21)));
        all.add(new Named("undo(0)", x -> x.undo(0)));
        all.add(new Named("undo(4)", x -> x.undo(4)));
        all.add(new Named("undo(31)", x -> x.undo(31)));
        all.add(new Named("joy(0, 2, 0)", x -> x.joy(0, 2, 0)));
        all.add(new Named("best(0, 3)", x -> x.best(0, 3)));
        all.add(new Named("plan(2)", x -> x.plan(2)));
        all.add(new Named("line(0, 2)", x -> x.line(0, 2)));
        all.add(new Named("now: said", x -> x.now(0, 0, 0)));
        all.add(new Named("agree(0, 0)", x -> x.agree(0, 0)));
        all.add(new Named("boldest(8)", x -> x.boldest(8)));
        all.add(new Named("dry(61, 0)", x -> x.dry(61, 0)));
        all.add(new Named("hear(8, true)", x -> x.hear(8, true)));
        all.add(new Named("write(2, -1)", x -> x.write(2, -1)));
        all.add(new Named("write(0, 2)", x -> x.write(0, 2)));
        all.add(new Named("write(0, -2)", x -> x.write(0, -2)));
        all.add(new Named("seed(-1)", x -> x.seed(-1)));
        all.add(new Named("keep(2)", x -> x.keep(2)));
        all.add(new Named("keep(-1)", x -> x.keep(-1)));
        all.add(new Named("goBack(2)", x -> x.goBack(2)));
        all.add(new Named("goBack: not kept", x -> x.goBack(1)));
        return all;
    }

    /** An evening on which much was done; image 1 is not kept, three deeds can be undone. */
    private static GuestNoes busy() {
        GuestNoes x = Check.evening(SMALL);
        x.seed(77);
        x.hour(1);
        x.keep(0);
        x.seed(88);
        x.feed('t');
        x.hear(1, true);
        x.write(0, 1);
        x.hour(1);
        x.no(1, 0);
        x.bed(1);
        return x;
    }

    /** What is so, how it was ahead of each deed, and the image: all that can be seen of it. */
    private static String unfolded(GuestNoes x) {
        StringBuilder all = new StringBuilder(Check.state(x));
        for (int i = 0; i < 3; i++) {
            all.append(" undone ").append(x.undo(1)).append(": ").append(Check.state(x));
        }
        all.append(" no more ").append(x.undo(1)).append(" image ").append(x.goBack(0)).append(": ").append(Check.state(x));
        all.append(" no image ").append(x.goBack(1)).append(" text ");
        Check.feedAll(x, "3;");
        return all.append(x.evening()).append(x.told(3)).toString();
    }

    private static void refusedChangesNothing() {
        says("What is refused changes nothing.");
        String due = unfolded(busy());
        for (Named call : refusedCalls()) {
            GuestNoes x = busy();
            int answer = call.deed().on(x);
            Check.holds(call.name() + " is refused", answer <= Check.UNKNOWN && answer >= Check.FULL);
            Check.same(call.name(), unfolded(x), due);
        }
        Named[] withoutEvening = {new Named("hour", x -> x.hour(1)), new Named("anew", x -> x.anew()), new Named("drift", x -> x.drift(1))};
        String none = Check.state(new GuestNoes());
        for (Named call : withoutEvening) {
            GuestNoes x = new GuestNoes();
            Check.is(call.name() + " without an evening", call.deed().on(x), Check.NOT);
            Check.same(call.name() + " without an evening", Check.state(x), none);
        }
    }

    private static void fullChangesNothing() {
        says("What is refused changes nothing.");
        GuestNoes x = new GuestNoes();
        Check.feedAll(x, "t9;g1 2;" + " ".repeat(232));
        Check.is("the text is full", x.feed(';'), Check.FULL);
        Check.is("letters", x.told(4), 240);
        Check.is("it is read as it was", x.evening(), 1);
        for (int i = 0; i < 6; i++) {
            x.hear(0, true);
        }
        for (int i = 0; i < 20; i++) {
            x.write(0, -1);
        }
        Check.is("six are heard", x.hear(7, true), Check.FULL);
        Check.is("heard", x.told(16), 6);
        Check.is("who could be", x.couldBe(), 1);
        Check.is("the book is full", x.write(0, -1), Check.FULL);
        Check.is("book", x.told(17), 20);
        Check.is("all of it is so", x.judge(), Check.NONE);
        Check.is("both", x.tear(), 26);
    }
}
