/** Promises 18 to 21 and 27: quotas, jobs, builds that are kept, and jobs that are written. */
public final class JobsTest {
    private static final int ALL = 67108863;
    private static final int A_TO_J = 1023;

    public static void main(String[] args) {
        promise18();
        promise19Refusals();
        promise19Limit();
        promise19Costs();
        promise19Stops();
        promise19Keeps();
        promise19KeepsByWhatIsRead();
        promise19KeepsTheFirst();
        promise19HiddenIsNothing();
        promise20();
        promise20Refusals();
        promise21();
        promise21Reads();
        promise27();
        Check.end("JobsTest");
    }

    /** A service with a font 0 of width 1 that covers all, as the image 0, and a document of one word, 20 wide. */
    private static PressBox oneWord() {
        PressBox x = new PressBox();
        fontLayer(x, 0, 1, ALL);
        x.image(Check.codes(0));
        x.document(20, 3);
        x.paragraph(0, 0);
        x.word(0, 1);
        return x;
    }

    private static int fontLayer(PressBox x, int file, int width, int cover) {
        int layer = x.layer();
        x.font(layer, file, width, cover);
        x.seal(layer);
        return layer;
    }

    private static int packLayer(PressBox x, int file, int space, int version) {
        int layer = x.layer();
        x.pack(layer, file, space, version);
        x.seal(layer);
        return layer;
    }

    private static long[] allOf(PressBox x, int job) {
        long[] all = new long[7];
        for (int what = 0; what < 7; what++) {
            all[what] = x.job(job, what);
        }
        return all;
    }

    private static void promise18() {
        PressBox x = new PressBox();
        Check.refused("owner -1", Check.RANGE, () -> x.quota(-1, 1));
        Check.refused("owner 4", Check.RANGE, () -> x.quota(4, 1));
        Check.refused("more 0", Check.RANGE, () -> x.quota(0, 0));
        Check.refused("more 10001", Check.RANGE, () -> x.quota(0, 10001));
        Check.refused("the greatest", Check.RANGE, () -> x.quota(0, Integer.MAX_VALUE));
        Check.same("1", x.quota(3, 1), 1);
        Check.same("10000 more", x.quota(3, 10000), 10001);
        for (int i = 1; i <= 100; i++) {
            Check.same("up to the most", x.quota(0, 10000), 10000 * i);
        }
        Check.refused("above, and owner 4", Check.RANGE, () -> x.quota(4, 1));
        Check.refused("above", Check.STATE, () -> x.quota(0, 1));
        Check.same("not by that", x.left(0), 1000000);
        Check.same("another owner", x.left(3), 10001);
    }

    private static void promise19Refusals() {
        PressBox x = oneWord();
        Check.refused("owner -1, and nothing else there", Check.RANGE, () -> x.run(-1, 9, 9));
        Check.refused("owner 4", Check.RANGE, () -> x.run(4, 0, 0));
        Check.refused("document -1", Check.NO_SUCH, () -> x.run(0, -1, 0));
        Check.refused("document 1", Check.NO_SUCH, () -> x.run(0, 1, 0));
        Check.refused("image -1", Check.NO_SUCH, () -> x.run(0, 0, -1));
        Check.refused("image 1", Check.NO_SUCH, () -> x.run(0, 0, 1));
        x.drop(0);
        Check.refused("gone, and document 1", Check.NO_SUCH, () -> x.run(0, 1, 0));
        Check.refused("gone", Check.STATE, () -> x.run(0, 0, 0));
        Check.refused("no job by that", Check.NO_SUCH, () -> x.job(0, 0));
    }

    private static void promise19Limit() {
        PressBox x = oneWord();
        x.quota(0, 6);
        for (int i = 0; i < 40; i++) {
            Check.same("job", x.run(0, 0, 0), i);
        }
        Check.refused("a 41st, and image 1", Check.NO_SUCH, () -> x.run(0, 0, 1));
        Check.refused("a 41st", Check.STATE, () -> x.run(0, 0, 0));
        Check.refused("no 41st", Check.NO_SUCH, () -> x.job(40, 0));
        Check.same("the 40th", x.job(39, 0), PressBox.KEPT);
    }

    private static void promise19Costs() {
        PressBox x = oneWord();
        x.quota(1, 1000);
        x.run(1, 0, 0);
        Check.row("one pass, one line", allOf(x, 0), PressBox.RAN, 6, 0, 1, 1, 1, 1);
        Check.same("left", x.left(1), 994);
        x.word(0, Check.letters(0, 8));
        x.word(0, Check.letters(0, 8));
        x.run(1, 0, 0);
        Check.row("another version: one pass, two lines", allOf(x, 1), PressBox.RAN, 7, 1, 1, 2, 1, 1);
        x.document(20, 3);
        x.run(1, 1, 0);
        Check.row("nothing in it", allOf(x, 2), PressBox.RAN, 5, 2, 0, 0, 1, 0);
        x.paragraph(1, 0);
        for (int i = 0; i < 4; i++) {
            x.word(1, Check.letters(0, 8));
            x.word(1, Check.letters(0, 8));
        }
        x.paragraph(1, 1);
        x.reference(1, 1);
        x.run(1, 1, 0);
        Check.row("two passes, five lines", allOf(x, 3), PressBox.RAN, 20, 3, 2, 5, 2, 1);
        Check.same("left behind all", x.left(1), 994 - 7 - 5 - 20);
        Check.same("of the other owner", x.left(0), 0);
    }

    private static void promise19Stops() {
        PressBox x = oneWord();
        x.run(2, 0, 0);
        Check.row("nothing left", allOf(x, 0), PressBox.STOPPED, 0, -1, -1, -1, -1, -1);
        x.quota(2, 5);
        x.run(2, 0, 0);
        Check.row("one too few", allOf(x, 1), PressBox.STOPPED, 5, -1, -1, -1, -1, -1);
        Check.same("all is gone", x.left(2), 0);
        x.quota(2, 6);
        x.run(2, 0, 0);
        Check.row("just enough", allOf(x, 2), PressBox.RAN, 6, 0, 1, 1, 1, 1);
        Check.same("all is gone", x.left(2), 0);
        x.run(2, 0, 0);
        Check.row("kept costs nothing", allOf(x, 3), PressBox.KEPT, 0, 0, 1, 1, 1, 1);
        x.run(0, 0, 0);
        Check.row("by another owner", allOf(x, 4), PressBox.KEPT, 0, 0, 1, 1, 1, 1);
        Check.row("stopped stays stopped", allOf(x, 1), PressBox.STOPPED, 5, -1, -1, -1, -1, -1);
    }

    private static void promise19Keeps() {
        PressBox x = oneWord();
        x.quota(0, 1000);
        x.document(20, 3);
        x.paragraph(1, 0);
        x.word(1, 1);
        Check.same("the first", x.job(x.run(0, 0, 0), 0), PressBox.RAN);
        Check.same("another document of the same version", x.job(x.run(0, 1, 0), 0), PressBox.RAN);
        Check.same("its build", x.job(1, 2), 1);
        Check.same("again", x.job(x.run(0, 1, 0), 2), 1);
        Check.same("the first again", x.job(x.run(0, 0, 0), 2), 0);
        x.style(0, 3, 3);
        Check.same("another version, the same text", x.job(x.run(0, 0, 0), 0), PressBox.RAN);
        Check.same("a new build", x.job(4, 2), 2);
        x.include(0, 9, false);
        Check.same("another version once more", x.job(x.run(0, 0, 0), 0), PressBox.RAN);
        x.drop(0);
        fontLayer(x, 0, 1, ALL);
        x.image(Check.codes(1));
        Check.same("builds stay, images go", x.job(x.run(0, 0, 1), 0), PressBox.KEPT);
        Check.same("a build of an old job stays", x.job(0, 4), 1);
    }

    private static void promise19KeepsByWhatIsRead() {
        PressBox x = new PressBox();
        fontLayer(x, 1, 2, A_TO_J);
        fontLayer(x, 2, 3, ALL);
        fontLayer(x, 4, 5, ALL);
        fontLayer(x, 0, 6, 1);
        packLayer(x, 5, 1, 1);
        packLayer(x, 6, 1, 1);
        packLayer(x, 6, 1, 2);
        fontLayer(x, 2, 3, ALL - 1);
        x.document(50, 3);
        x.include(0, 6, true);
        x.paragraph(0, 0);
        x.word(0, Check.codes(0, 20));
        x.quota(0, 1000);
        x.image(Check.codes(0, 1));
        x.image(Check.codes(0, 1, 2));
        x.image(Check.codes(0, 1, 3));
        x.image(Check.codes(0, 1, 4));
        x.image(Check.codes(0, 1, 5));
        x.image(Check.codes(0, 1, 6));
        x.image(Check.codes(0, 1, 6, 5));
        x.image(Check.codes(0, 7));
        Check.same("runs", x.job(x.run(0, 0, 0), 0), PressBox.RAN);
        Check.same("reads 0, 1, 2 and 6", x.job(0, 6), 1 + 2 + 4 + 64);
        Check.same("font 4 is not read", x.job(x.run(0, 0, 1), 0), PressBox.KEPT);
        Check.same("font 0 was looked at, and was not there", x.job(x.run(0, 0, 2), 0), PressBox.RAN);
        Check.same("its build", x.job(2, 2), 1);
        Check.same("package 5 is not included", x.job(x.run(0, 0, 3), 2), 0);
        Check.same("package 6 is there now", x.job(x.run(0, 0, 4), 2), 2);
        Check.same("with another version", x.job(x.run(0, 0, 5), 2), 3);
        Check.same("the upper one", x.job(x.run(0, 0, 6), 2), 2);
        Check.same("another cover of a font, of a letter that is not there", x.job(x.run(0, 0, 7), 2), 4);
        Check.same("costs of one line", x.left(0), 1000 - 5 * 6);
    }

    private static void promise19KeepsTheFirst() {
        PressBox x = oneWord();
        fontLayer(x, 0, 2, ALL);
        x.image(Check.codes(1));
        x.quota(0, 1000);
        x.run(0, 0, 1);
        x.run(0, 0, 0);
        Check.same("that of image 0", x.job(x.run(0, 0, 0), 2), 1);
        Check.same("that of image 1", x.job(x.run(0, 0, 1), 2), 0);
        Check.same("its width", x.line(3, 0, 3), 2);
        Check.same("its width", x.line(2, 0, 3), 1);
    }

    private static void promise19HiddenIsNothing() {
        PressBox x = new PressBox();
        fontLayer(x, 1, 2, ALL);
        fontLayer(x, 0, 3, ALL);
        int hides = x.layer();
        x.hide(hides, 0);
        x.seal(hides);
        x.document(50, 3);
        x.paragraph(0, 0);
        x.word(0, 1);
        x.quota(0, 1000);
        x.image(Check.codes(0));
        x.image(Check.codes(0, 1, 2));
        x.image(Check.codes(0, 1));
        x.run(0, 0, 0);
        Check.same("hidden", x.job(x.run(0, 0, 1), 0), PressBox.KEPT);
        Check.same("not hidden", x.job(x.run(0, 0, 2), 0), PressBox.RAN);
        Check.same("reads font 0 alone", x.job(2, 6), 1);
        Check.same("reads both", x.job(1, 6), 3);
    }

    private static void promise20() {
        PressBox x = oneWord();
        x.quota(0, 1000);
        x.document(20, 3);
        x.run(0, 1, 0);
        x.run(0, 0, 0);
        for (int i = 0; i < 9; i++) {
            x.word(0, Check.letters(0, 8));
            x.word(0, Check.letters(0, 8));
            x.run(0, 0, 0);
        }
        Check.same("four pages", x.job(10, 3), 4);
        int layer = x.layer();
        x.pack(layer, 7, 0, 9);
        x.hide(layer, 8);
        x.write(0, layer, 5);
        x.write(1, layer, 6);
        x.write(4, layer, 7);
        x.write(9, layer, 8);
        x.write(10, layer, 9);
        x.seal(layer);
        x.image(Check.codes(layer));
        Check.same("no pages", x.file(1, 5, 0), 0);
        Check.same("build 0", x.file(1, 5, 1), 0);
        Check.same("one page", x.file(1, 6, 0), 1);
        Check.same("build 1", x.file(1, 6, 1), 1);
        Check.same("two pages", x.file(1, 7, 0), x.job(4, 3));
        Check.same("build 4", x.file(1, 7, 1), 4);
        Check.same("at most 3", x.file(1, 8, 0), 3);
        Check.same("build 9", x.file(1, 8, 1), 9);
        Check.same("four pages are 3", x.file(1, 9, 0), 3);
        Check.same("build 10 modulo 10", x.file(1, 9, 1), 0);
        Check.same("kept ones may be written too", x.job(x.run(0, 0, 0), 0), PressBox.KEPT);
        int next = x.layer();
        x.write(11, next, 5);
        x.seal(next);
        x.image(Check.codes(layer, next));
        Check.same("what others read", x.file(2, 5, 0), 3);
        x.include(0, 5, true);
        x.run(0, 0, 2);
        Check.same("reads it", x.job(12, 6) >> 5, 1);
        Check.same("is higher by it", x.job(12, 3) > x.job(11, 3), true);
    }

    private static void promise20Refusals() {
        PressBox x = oneWord();
        Check.refused("no job", Check.NO_SUCH, () -> x.write(0, 0, 5));
        x.run(0, 0, 0);
        x.quota(0, 100);
        x.run(0, 0, 0);
        x.layer();
        Check.refused("job -1", Check.NO_SUCH, () -> x.write(-1, 1, 5));
        Check.refused("job 2", Check.NO_SUCH, () -> x.write(2, 1, 5));
        Check.refused("layer -1", Check.NO_SUCH, () -> x.write(1, -1, 5));
        Check.refused("layer 2, file 4", Check.NO_SUCH, () -> x.write(1, 2, 4));
        Check.refused("file 4", Check.RANGE, () -> x.write(1, 1, 4));
        Check.refused("file 10", Check.RANGE, () -> x.write(1, 1, 10));
        Check.refused("file 4, no build", Check.RANGE, () -> x.write(0, 1, 4));
        Check.refused("file 4, sealed", Check.RANGE, () -> x.write(1, 0, 4));
        Check.refused("no build", Check.STATE, () -> x.write(0, 1, 5));
        Check.refused("sealed", Check.STATE, () -> x.write(1, 0, 5));
        x.seal(1);
        x.image(Check.codes(1));
        Check.same("nothing by that", x.file(1, 5, 0), PressBox.NONE);
    }

    private static void promise21() {
        PressBox x = oneWord();
        Check.refused("job 0", Check.NO_SUCH, () -> x.job(0, 0));
        x.run(0, 0, 0);
        x.quota(0, 100);
        x.run(0, 0, 0);
        x.run(0, 0, 0);
        Check.refused("job -1, what -1", Check.NO_SUCH, () -> x.job(-1, -1));
        Check.refused("job 3", Check.NO_SUCH, () -> x.job(3, 0));
        Check.refused("job 40", Check.NO_SUCH, () -> x.job(40, 0));
        Check.refused("what -1", Check.RANGE, () -> x.job(0, -1));
        Check.refused("what 7", Check.RANGE, () -> x.job(0, 7));
        Check.row("stopped", allOf(x, 0), PressBox.STOPPED, 0, -1, -1, -1, -1, -1);
        Check.row("ran", allOf(x, 1), PressBox.RAN, 6, 0, 1, 1, 1, 1);
        Check.row("kept", allOf(x, 2), PressBox.KEPT, 0, 0, 1, 1, 1, 1);
    }

    private static void promise21Reads() {
        PressBox x = new PressBox();
        fontLayer(x, 1, 6, A_TO_J);
        x.image(Check.codes(0));
        x.quota(0, 1000);
        x.document(100, 3);
        x.style(0, 2, 3);
        x.include(0, 9, true);
        x.include(0, 5, true);
        x.include(0, 5, false);
        x.paragraph(0, 2);
        x.run(0, 0, 0);
        Check.same("no letter: the included package alone", x.job(0, 6), 512);
        x.reference(0, 0);
        x.run(0, 0, 0);
        Check.same("references read nothing", x.job(1, 6), 512);
        x.word(0, Check.codes(9));
        x.run(0, 0, 0);
        Check.same("3, 4, 0, and 1 that covers it", x.job(2, 6), 512 + 8 + 16 + 1 + 2);
        x.word(0, Check.codes(10));
        x.run(0, 0, 0);
        Check.same("all, if none covers it", x.job(3, 6), 512 + 31);
        x.document(100, 3);
        x.paragraph(1, 1);
        x.word(1, Check.codes(0));
        x.run(0, 1, 0);
        Check.same("that of the style alone", x.job(4, 6), 2);
    }

    private static void promise27() {
        PressBox x = oneWord();
        Check.refused("owner -1", Check.RANGE, () -> x.left(-1));
        Check.refused("owner 4", Check.RANGE, () -> x.left(4));
        x.quota(0, 20);
        x.quota(3, 7);
        x.run(0, 0, 0);
        Check.same("what it cost", x.left(0), 14);
        x.run(0, 0, 0);
        Check.same("kept", x.left(0), 14);
        x.style(0, 0, 0);
        x.run(0, 0, 0);
        Check.same("ran again", x.left(0), 8);
        x.style(0, 0, 0);
        x.run(0, 0, 0);
        x.style(0, 0, 0);
        x.run(0, 0, 0);
        Check.same("stopped", x.left(0), 0);
        Check.same("others have theirs", x.left(3), 7);
        Check.same("or nothing", x.left(1), 0);
    }
}
