/** Promises 25 to 30: what was heard, who it was, and the visitors' book. */
public final class HeardTest {
    public static void main(String[] args) {
        hearing();
        couldBe();
        asking();
        askingParts();
        writing();
        judging();
        tearing();
        Check.end("HeardTest");
    }

    private static void hearing() {
        GuestNoes x = Check.moor();
        Check.is("hear(8)", x.hear(8, true), Check.OUTSIDE);
        Check.is("hear(-1)", x.hear(-1, false), Check.OUTSIDE);
        for (int n = 1; n <= 6; n++) {
            Check.is("hear " + n, x.hear(n == 1 ? 0 : 7, n == 1), n);
        }
        Check.is("hear 7", x.hear(0, true), Check.FULL);
        Check.is("outside first", x.hear(8, true), Check.OUTSIDE);
        Check.is("heard", x.told(16), 6);
        Check.is("what was refused is not heard", x.couldBe(), 7);
        Check.is("without an evening", new GuestNoes().hear(7, false), 1);
    }

    private static void couldBe() {
        GuestNoes x = Check.moor();
        Check.is("all", x.couldBe(), 15);
        x.hear(0, true);
        Check.is("claims 0", x.couldBe(), 7);
        x.hear(1, false);
        Check.is("not 1", x.couldBe(), 6);
        x.hear(3, true);
        Check.is("claims 3", x.couldBe(), 2);
        x.hear(3, true);
        Check.is("the same again", x.couldBe(), 2);
        x.hear(3, false);
        Check.is("it cannot be", x.couldBe(), 0);
        x.tear();
        x.hour(3);
        x.bed(0);
        Check.is("deeds make no difference", x.couldBe(), 15);
        Check.is("no guests", Check.evening("t0;h0 1;").couldBe(), 0);
    }

    private static void asking() {
        GuestNoes x = Check.moor();
        Check.is("halves", x.ask(), 2);
        x.hear(0, true);
        Check.is("1 against 2, the least", x.ask(), 1);
        x.hear(2, true);
        Check.is("1 parts them", x.ask(), 1);
        x.hear(1, true);
        Check.is("one is left", x.ask(), Check.NONE);
        x.hear(7, true);
        Check.is("none is left", x.ask(), Check.NONE);
    }

    private static void askingParts() {
        Check.is("alike", Check.evening("t0;g0 1,12;g0 19,5;").ask(), Check.NONE);
        Check.is("no guests", Check.evening("t0;").ask(), Check.NONE);
        Check.is("of like ones the least", Check.evening("t0;g0 30;g0 10;g0 10,30;").ask(), 1);
        Check.is("the greater part is least", Check.evening("t0;g0 0,70;g0 0,70;g0 0;g0 5;").ask(), 7);
        Check.is("most claim it", Check.evening("t0;g0 40;g0 40;g0 40;g0 50,40;g0 50;").ask(), 5);
        Check.is("the first topic", Check.evening("t0;g0 5;g0 15;").ask(), 0);
        Check.is("the last topic", Check.evening("t0;g0 5;g0 5,70;").ask(), 7);
    }

    private static void writing() {
        GuestNoes x = Check.moor();
        Check.is("guest 4", x.write(4, 0), Check.UNKNOWN);
        Check.is("guest -1", x.write(-1, 0), Check.UNKNOWN);
        Check.is("host 4", x.write(0, 4), Check.UNKNOWN);
        Check.is("host -2", x.write(0, -2), Check.UNKNOWN);
        for (int n = 1; n <= 20; n++) {
            Check.is("write " + n, x.write(n % 4, n % 5 - 1), n);
        }
        Check.is("write 21", x.write(0, -1), Check.FULL);
        Check.is("unknown first", x.write(4, -1), Check.UNKNOWN);
        Check.is("book", x.told(17), 20);
    }

    private static void judging() {
        GuestNoes x = Check.moor();
        Check.is("no book", x.judge(), Check.NONE);
        x.write(0, -1);
        x.write(1, -1);
        Check.is("so it is", x.judge(), Check.NONE);
        x.hour(1);
        x.no(2, 1);
        Check.is("he was told", x.judge(), 1);
        x.write(1, 2);
        Check.is("the first stays", x.judge(), 1);
        x.tear();
        x.write(1, 2);
        x.write(0, -1);
        Check.is("so it is", x.judge(), Check.NONE);
        x.write(1, 1);
        Check.is("by another", x.judge(), 2);
        x.undo(1);
        Check.is("undone", x.judge(), 0);
        x.no(2, 1);
        x.anew();
        Check.is("another evening", x.judge(), 0);
        x.tear();
        for (int n = 0; n < 19; n++) {
            x.write(3, -1);
        }
        x.write(3, 0);
        Check.is("the twentieth", x.judge(), 19);
    }

    private static void tearing() {
        GuestNoes x = Check.moor();
        Check.is("nothing", x.tear(), 0);
        x.hear(0, true);
        x.hear(1, true);
        x.write(0, 2);
        x.write(0, 2);
        x.write(0, 2);
        Check.is("both", x.tear(), 5);
        Check.is("heard", x.told(16), 0);
        Check.is("book", x.told(17), 0);
        Check.is("all could be", x.couldBe(), 15);
        Check.is("nothing false", x.judge(), Check.NONE);
        Check.is("nothing left", x.tear(), 0);
        x.hear(0, true);
        Check.is("one alone", x.tear(), 1);
        x.write(0, 2);
        Check.is("the other alone", x.tear(), 1);
        x.hour(2);
        x.keep(0);
        x.hour(1);
        x.tear();
        Check.is("it is no deed", x.undo(1), 2);
        Check.is("images stay", x.goBack(0), 1);
    }
}
