/** Promises 31 to 33: THE SEED and the images. */
public final class ImagesTest {
    public static void main(String[] args) {
        seeds();
        images();
        twoImages();
        imagesWithoutEvening();
        whatImagesLeave();
        Check.end("ImagesTest");
    }

    private static void seeds() {
        GuestNoes x = new GuestNoes();
        Check.is("at first", x.seed(5), 0);
        Check.is("most", x.seed(2147483647), 5);
        Check.is("least", x.seed(-1), Check.OUTSIDE);
        Check.is("far less", x.seed(Integer.MIN_VALUE), Check.OUTSIDE);
        Check.is("refused", x.seed(0), 2147483647);
        Check.read(x, Check.MOOR);
        x.drift(1);
        // 12345, 1406932606, and this one.
        Check.is("three draws", x.seed(1), 654583775);
    }

    private static void images() {
        GuestNoes x = Check.moor();
        x.seed(63);
        x.drift(6);
        x.bed(1);
        String was = Check.state(x);
        Check.is("keep", x.keep(0), 1);
        Check.is("nothing to undo", x.told(18), 0);
        String kept = Check.state(x);
        x.drift(9);
        x.anew();
        Check.is("back", x.goBack(0), 1);
        Check.same("as it was", Check.state(x), kept);
        Check.holds("but for what can be undone", !kept.equals(was));
        Check.is("nothing to undo", x.undo(1), Check.NOT);
        x.hour(2);
        Check.is("back again", x.goBack(0), 1);
        Check.same("as it was", Check.state(x), kept);
    }

    private static void twoImages() {
        GuestNoes x = Check.moor();
        x.hour(1);
        x.seed(11);
        x.keep(0);
        Check.is("not kept", x.goBack(1), Check.NOT);
        x.hour(1);
        x.seed(22);
        x.keep(1);
        x.hour(1);
        x.seed(33);
        Check.is("back to 0", x.goBack(0), 1);
        Check.is("hours", x.told(5), 1);
        Check.is("seed", x.seed(44), 11);
        Check.is("back to 1", x.goBack(1), 1);
        Check.is("hours", x.told(5), 2);
        Check.is("seed", x.seed(55), 22);
        x.keep(0);
        x.hour(3);
        x.goBack(0);
        Check.is("kept anew", x.told(5), 2);
        Check.is("seed", x.seed(66), 55);
        Check.is("keep(2)", x.keep(2), Check.UNKNOWN);
        Check.is("keep(-1)", x.keep(-1), Check.UNKNOWN);
        Check.is("goBack(2)", x.goBack(2), Check.UNKNOWN);
        Check.is("goBack(-1)", x.goBack(-1), Check.UNKNOWN);
    }

    private static void imagesWithoutEvening() {
        GuestNoes x = new GuestNoes();
        Check.is("not kept", x.goBack(0), Check.NOT);
        x.seed(8);
        Check.is("keep", x.keep(1), 1);
        x.seed(9);
        Check.is("back", x.goBack(1), 1);
        Check.is("seed", x.seed(0), 8);
        Check.read(x, "t0;");
        Check.is("gone with a text", x.goBack(1), Check.NOT);
    }

    private static void whatImagesLeave() {
        GuestNoes x = Check.moor();
        x.hear(0, true);
        x.keep(0);
        x.hear(1, true);
        x.write(0, -1);
        x.feed('t');
        Check.is("back", x.goBack(0), 1);
        Check.is("heard", x.told(16), 2);
        Check.is("book", x.told(17), 1);
        Check.is("letters", x.told(4), 1);
    }
}
