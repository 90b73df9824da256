/** Promises 22 to 26: lines, pages, references, and pages that come out alike; the sums are told by hand. */
public final class PagesTest {
    private static final int ALL = 67108863;
    private static final int NONE = PressBox.NONE;

    public static void main(String[] args) {
        promise22Lines();
        promise22Fallback();
        promise22Pages();
        promise22Sixty();
        promise22Refusals();
        promise23();
        promise23Figures();
        promise23NeverSettled();
        promise23FourPasses();
        promise24();
        promise24Stopped();
        promise25Gaps();
        promise25Ties();
        promise25Again();
        promise25HighLines();
        promise26();
        promise26Paragraphs();
        Check.end("PagesTest");
    }

    /** A service with a font 0 of a width that covers all as image 0, a document, and enough for owner 0. */
    private static PressBox box(int width, int measure, int height) {
        PressBox x = new PressBox();
        x.layer();
        x.font(0, 0, width, ALL);
        x.seal(0);
        x.image(Check.codes(0));
        x.document(measure, height);
        x.quota(0, 10000);
        return x;
    }

    /** Adds a paragraph of so many words of one letter 20 wide each, every one a line for the measure 20. */
    private static void lines(PressBox x, int count) {
        x.paragraph(0, 0);
        for (int i = 0; i < count; i++) {
            x.word(0, 1);
        }
    }

    /** Image 1: font 0 of the width, and package 5 with the space, which the document includes. */
    private static void spaced(PressBox x, int space) {
        int layer = x.layer();
        x.pack(layer, 5, space, 0);
        x.seal(layer);
        x.image(Check.codes(0, layer));
        x.include(0, 5, true);
    }

    private static long[] linesOf(PressBox x, int job, int what) {
        long[] all = new long[x.job(job, 4)];
        for (int i = 0; i < all.length; i++) {
            all[i] = x.line(job, i, what);
        }
        return all;
    }

    private static void promise22Lines() {
        PressBox x = box(1, 20, 12);
        x.paragraph(0, 0);
        x.word(0, Check.letters(3, 8));
        x.word(0, Check.letters(4, 8));
        x.word(0, Check.letters(5, 8));
        x.word(0, Check.letters(6, 8));
        x.word(0, 1);
        x.paragraph(0, 1);
        x.paragraph(0, 0);
        x.word(0, Check.letters(7, 3));
        x.run(0, 0, 0);
        Check.row("paragraphs", linesOf(x, 0, 0), 0, 0, 0, 2);
        Check.row("first words", linesOf(x, 0, 1), 0, 2, 4, 5);
        Check.row("last words", linesOf(x, 0, 2), 1, 3, 4, 5);
        Check.row("widths", linesOf(x, 0, 3), 20, 20, 1, 3);
        Check.row("pages", linesOf(x, 0, 4), 0, 0, 0, 0);
        PressBox y = box(20, 158, 12);
        y.paragraph(0, 0);
        y.word(0, Check.letters(0, 8));
        y.word(0, 1);
        y.reference(0, 0);
        y.run(0, 0, 0);
        Check.row("one that is too wide stands alone", linesOf(y, 0, 3), 160, 30);
    }

    private static void promise22Fallback() {
        PressBox x = new PressBox();
        x.layer();
        x.font(0, 0, 2, 1);
        x.font(0, 2, 3, 1 | 2);
        x.font(0, 4, 5, 2 | 4);
        x.seal(0);
        x.image(1);
        x.document(20, 12);
        x.quota(0, 1000);
        for (int style = 0; style < 4; style++) {
            x.paragraph(0, style);
            for (int letter = 0; letter < 4; letter++) {
                x.word(0, Check.letters(letter, 4));
            }
        }
        x.run(0, 0, 0);
        Check.row("widths by the order from the font of the style on", linesOf(x, 0, 3),
            8, 12, 20, 40, 12, 12, 20, 40, 12, 12, 20, 40, 8, 20, 20, 40);
        x.style(0, 0, 4);
        x.style(0, 1, 0);
        x.run(0, 0, 0);
        Check.row("by another font of the styles", linesOf(x, 1, 3),
            8, 20, 20, 40, 8, 12, 20, 40, 12, 12, 20, 40, 8, 20, 20, 40);
    }

    private static void promise22Pages() {
        PressBox x = box(20, 20, 3);
        lines(x, 4);
        x.run(0, 0, 0);
        Check.row("no line alone", linesOf(x, 0, 4), 0, 0, 1, 1);
        PressBox y = box(20, 20, 3);
        for (int i = 0; i < 4; i++) {
            lines(y, 1);
        }
        y.run(0, 0, 0);
        Check.row("full pages", linesOf(y, 0, 4), 0, 0, 0, 1);
        PressBox z = box(20, 20, 3);
        lines(z, 1);
        lines(z, 1);
        z.paragraph(0, 3);
        lines(z, 2);
        spaced(z, 2);
        z.run(0, 0, 0);
        Check.row("not included by the image", linesOf(z, 0, 4), 0, 0, 1, 1);
        z.run(0, 0, 1);
        Check.row("higher last lines", linesOf(z, 1, 4), 0, 1, 2, 3);
        z.include(0, 5, false);
        z.run(0, 0, 1);
        Check.row("not included by the document", linesOf(z, 2, 4), 0, 0, 1, 1);
    }

    private static void promise22Sixty() {
        PressBox x = box(20, 20, 3);
        for (int i = 0; i < 12; i++) {
            lines(x, 5);
        }
        spaced(x, 3);
        x.run(0, 0, 1);
        Check.same("60 lines", x.job(0, 4), 60);
        Check.same("60 words", x.line(0, 59, 2), 59);
        Check.same("in paragraph 11", x.line(0, 59, 0), 11);
        Check.same("the high one alone", x.line(0, 59, 4), 35);
        Check.same("pages", x.job(0, 3), 36);
        Check.same("of 5: 2, 2, 1", x.penalties(0), 12 * (1 + 1 + 10));
        Check.same("anew", x.anew(0, 59), 35);
        x.document(20, 3);
        x.run(0, 1, 0);
        Check.same("nothing behind much", x.penalties(1), 0);
        Check.same("all pages", x.differences(0, 1), 36);
        Check.same("all pages, the other way round", x.differences(1, 0), 36);
        Check.same("none", x.differences(0, 0), 0);
    }

    private static void promise22Refusals() {
        PressBox x = box(20, 20, 3);
        lines(x, 2);
        Check.refused("job 0", Check.NO_SUCH, () -> x.line(0, 0, 0));
        x.run(0, 0, 0);
        x.style(0, 0, 0);
        x.run(1, 0, 0);
        Check.refused("job -1", Check.NO_SUCH, () -> x.line(-1, 0, 5));
        Check.refused("job 2", Check.NO_SUCH, () -> x.line(2, 0, 0));
        Check.refused("line -1", Check.NO_SUCH, () -> x.line(0, -1, 5));
        Check.refused("what -1", Check.RANGE, () -> x.line(0, 9, -1));
        Check.refused("what 5", Check.RANGE, () -> x.line(0, 0, 5));
        Check.refused("what 5, no build", Check.RANGE, () -> x.line(1, 0, 5));
        for (int what = 0; what < 5; what++) {
            Check.same("there", x.line(0, 1, what) != NONE, true);
            Check.same("not so many", x.line(0, 2, what), NONE);
            Check.same("60", x.line(0, 60, what), NONE);
            Check.same("the greatest", x.line(0, Integer.MAX_VALUE, what), NONE);
            Check.same("no build", x.line(1, 0, what), NONE);
        }
    }

    private static void promise23() {
        PressBox x = box(20, 20, 3);
        lines(x, 3);
        x.paragraph(0, 0);
        lines(x, 2);
        x.reference(0, 0);
        x.reference(0, 1);
        x.reference(0, 2);
        x.run(0, 0, 0);
        Check.same("two passes", x.job(0, 5), 2);
        Check.same("a word", x.shows(0, 0), NONE);
        Check.same("paragraph 0", x.shows(0, 5), 1);
        Check.same("a paragraph without lines", x.shows(0, 6), 1);
        Check.same("paragraph 2", x.shows(0, 7), 2);
        Check.same("no such word", x.shows(0, 8), NONE);
        Check.same("word 60", x.shows(0, 60), NONE);
        Check.same("the greatest", x.shows(0, Integer.MAX_VALUE), NONE);
        x.reference(0, 0);
        Check.same("not yet in it", x.shows(0, 8), NONE);
        x.run(1, 0, 0);
        Check.same("no build", x.shows(1, 5), NONE);
        x.run(0, 0, 0);
        x.run(1, 0, 0);
        Check.same("in it then", x.shows(2, 8), 1);
        Check.same("kept", x.shows(3, 7), 2);
        Check.refused("job -1", Check.NO_SUCH, () -> x.shows(-1, 0));
        Check.refused("job 4", Check.NO_SUCH, () -> x.shows(4, 0));
        Check.refused("word -1", Check.NO_SUCH, () -> x.shows(0, -1));
        PressBox y = box(20, 20, 3);
        y.paragraph(0, 0);
        y.paragraph(0, 0);
        y.reference(0, 0);
        y.run(0, 0, 0);
        Check.same("the first paragraph without lines", y.shows(0, 0), 1);
        Check.same("one pass", y.job(0, 5), 1);
    }

    /** Nine lines, a page each by their height, then a paragraph on page 10 with a reference to it. */
    private static PressBox tenPages(int references, int height) {
        PressBox x = box(20, 20, height);
        for (int i = 0; i < 9; i++) {
            lines(x, 1);
        }
        x.paragraph(0, 0);
        for (int i = 0; i < references; i++) {
            x.reference(0, 9);
        }
        spaced(x, height == 5 ? 2 : 3);
        return x;
    }

    private static void promise23Figures() {
        PressBox x = tenPages(2, 3);
        x.run(0, 0, 1);
        Check.same("page 10", x.shows(0, 9), 10);
        Check.same("page 10 too", x.shows(0, 10), 10);
        Check.same("two figures are 12 wide", x.line(0, 9, 3), 12);
        Check.same("so that two do not fit", x.line(0, 10, 3), 12);
        Check.same("two passes", x.job(0, 5), 2);
        x.run(0, 0, 0);
        Check.same("page 4", x.shows(1, 9), 4);
        Check.same("one figure each", x.line(1, 9, 3), 16);
        Check.same("one line", x.line(1, 10, 3), NONE);
    }

    /**
     * With one figure each, four references are two lines behind page 9; with two figures they are four lines, of
     * which two stand on page 9 at no penalty: so they show 1, 10, 9, 10, 9.
     */
    private static void promise23NeverSettled() {
        PressBox x = tenPages(4, 5);
        x.run(0, 0, 1);
        Check.same("ends with the fifth pass", x.job(0, 5), 5);
        Check.same("shows the pass ahead", x.shows(0, 9), 9);
        Check.same("stands on page 10", x.line(0, 9, 4), 9);
        Check.same("lines", x.job(0, 4), 11);
        Check.same("cost", x.job(0, 1), 5 * (5 + 11));
        Check.same("penalties", x.penalties(0), 9 * 4);
        Check.same("anew", x.anew(0, 9), 9);
    }

    private static void promise23FourPasses() {
        int[][] text = {{7, 1, 2, -1, 5, 2, 6, 1, 6, -1, 2, 1}, {4, 5, -2}, {3, 4, -3, 5}, {5, -4, 3, 2, 4},
            {8, -5, 4, -5, 6, 1, 3}, {2, 3, -6, -6, 7}, {-7}, {-6, 7, -8, 2, 2, 2, 3}, {1, 6, 6, 6, -9, 4},
            {-10, 3, 7, 3}, {3, 3, 5, 7, 3}};
        PressBox x = box(2, 21, 4);
        for (int[] paragraph : text) {
            x.paragraph(0, 0);
            for (int word : paragraph) {
                if (word > 0) {
                    x.word(0, Check.letters(0, word));
                } else {
                    x.reference(0, -word - 1);
                }
            }
        }
        x.run(0, 0, 0);
        Check.same("passes", x.job(0, 5), 4);
        Check.same("lines", x.job(0, 4), 39);
        Check.same("pages", x.job(0, 3), 12);
        Check.same("cost", x.job(0, 1), 4 * (5 + 39));
        for (int line = 1, paragraph = 0; line < 39; line++) {
            if (x.line(0, line, 0) != paragraph) {
                paragraph = x.line(0, line, 0);
                for (int word = 0; word < 60; word++) {
                    boolean refers = x.shows(0, word) != NONE;
                    int place = refers ? target(text, word) : -1;
                    if (place == paragraph) {
                        Check.same("settled", x.shows(0, word), x.line(0, line, 4) + 1);
                    }
                }
            }
        }
    }

    private static int target(int[][] text, int word) {
        int left = word;
        for (int[] paragraph : text) {
            if (left < paragraph.length) {
                return -paragraph[left] - 1;
            }
            left -= paragraph.length;
        }
        return NONE;
    }

    private static void promise24() {
        PressBox x = box(20, 20, 3);
        lines(x, 4);
        Check.refused("job 0", Check.NO_SUCH, () -> x.anew(0, 0));
        x.run(0, 0, 0);
        Check.refused("job -1", Check.NO_SUCH, () -> x.anew(-1, 0));
        Check.refused("job 1", Check.NO_SUCH, () -> x.anew(1, 0));
        Check.refused("line -1", Check.NO_SUCH, () -> x.anew(0, -1));
        Check.same("as it ran", x.anew(0, 1), 0);
        Check.same("as it ran", x.anew(0, 2), 1);
        Check.same("not so many", x.anew(0, 4), NONE);
        Check.same("the greatest", x.anew(0, Integer.MAX_VALUE), NONE);
        lines(x, 3);
        Check.same("as the document is now", x.anew(0, 3), 1);
        Check.same("as the document is now", x.anew(0, 6), 2);
        Check.same("not so many", x.anew(0, 7), NONE);
        Check.same("the job has no more", x.line(0, 4, 4), NONE);
        Check.same("nor pages", x.job(0, 3), 2);
        Check.same("nothing was made by that", x.left(0), 10000 - 9);
        x.run(0, 0, 0);
        Check.same("it runs then", x.job(1, 0), PressBox.RAN);
        Check.same("with the next build", x.job(1, 2), 1);
        x.image(Check.codes(0));
        x.drop(0);
        Check.same("held still", x.anew(0, 0), 0);
        x.drop(0);
        Check.same("gone", x.anew(0, 0), NONE);
        Check.same("the job stays", x.line(0, 0, 4), 0);
        Check.refused("gone, line -1", Check.NO_SUCH, () -> x.anew(0, -1));
    }

    private static void promise24Stopped() {
        PressBox x = box(20, 20, 3);
        lines(x, 4);
        x.run(3, 0, 0);
        Check.same("stopped", x.line(0, 3, 4), NONE);
        Check.same("anew", x.anew(0, 3), 1);
        x.document(20, 12);
        x.run(0, 1, 0);
        Check.same("nothing in it", x.anew(1, 0), NONE);
    }

    private static void promise25Gaps() {
        PressBox x = box(20, 20, 3);
        x.run(0, 0, 0);
        Check.same("no pages", x.penalties(0), 0);
        lines(x, 4);
        x.run(0, 0, 0);
        Check.same("2 and 2: a gap of 1", x.penalties(1), 1);
        PressBox y = box(20, 20, 3);
        lines(y, 2);
        lines(y, 2);
        y.run(0, 0, 0);
        Check.row("parted between the paragraphs", linesOf(y, 0, 4), 0, 0, 1, 1);
        Check.same("rather than 7 and 10", y.penalties(0), 1);
        PressBox z = box(20, 20, 5);
        lines(z, 4);
        lines(z, 4);
        z.run(0, 0, 0);
        Check.row("4 and 4", linesOf(z, 0, 4), 0, 0, 0, 0, 1, 1, 1, 1);
        Check.same("rather than 7", z.penalties(0), 1);
        PressBox w = box(20, 20, 3);
        lines(w, 1);
        lines(w, 6);
        w.run(0, 0, 0);
        Check.row("no last line alone", linesOf(w, 0, 4), 0, 0, 0, 1, 1, 2, 2);
        Check.same("a gap of 1", w.penalties(0), 1);
        PressBox v = box(20, 20, 12);
        lines(v, 9);
        lines(v, 12);
        v.run(0, 0, 0);
        Check.row("a gap of 3 is dearer than 0", linesOf(v, 0, 4),
            0, 0, 0, 0, 0, 0, 0, 0, 0, 0, 0, 0, 1, 1, 1, 1, 1, 1, 1, 1, 1);
        Check.same("nothing", v.penalties(0), 0);
        Check.refused("job -1", Check.NO_SUCH, () -> v.penalties(-1));
        Check.refused("job 1", Check.NO_SUCH, () -> v.penalties(1));
        v.style(0, 0, 0);
        v.run(1, 0, 0);
        Check.same("no build", v.penalties(1), NONE);
        PressBox u = box(20, 20, 3);
        lines(u, 2);
        lines(u, 1);
        spaced(u, 1);
        u.run(0, 0, 1);
        Check.row("2 + 1 high, then 2 high", linesOf(u, 0, 4), 0, 0, 1);
        Check.same("full, and no border within a paragraph", u.penalties(0), 0);
    }

    private static void promise25Ties() {
        PressBox x = box(20, 20, 3);
        lines(x, 7);
        x.run(0, 0, 0);
        Check.row("3, 2, 2 and 2, 3, 2 cost the same", linesOf(x, 0, 4), 0, 0, 0, 1, 1, 2, 2);
        Check.same("a gap of 1", x.penalties(0), 1);
        PressBox y = box(20, 20, 4);
        lines(y, 9);
        y.run(0, 0, 0);
        Check.row("4, 3, 2 and 3, 4, 2", linesOf(y, 0, 4), 0, 0, 0, 0, 1, 1, 1, 2, 2);
        PressBox z = box(20, 20, 4);
        lines(z, 13);
        z.run(0, 0, 0);
        Check.row("4, 4, 3, 2 of three", linesOf(z, 0, 4), 0, 0, 0, 0, 1, 1, 1, 1, 2, 2, 2, 3, 3);
    }

    /** What an earlier job left in the rows that are used again must not weigh on the next one. */
    private static void promise25Again() {
        PressBox x = box(20, 20, 3);
        lines(x, 7);
        x.document(20, 3);
        for (int i = 0; i < 4; i++) {
            x.paragraph(1, 0);
            x.word(1, 1);
        }
        x.run(0, 0, 0);
        x.run(0, 1, 0);
        Check.row("3 and 1", linesOf(x, 1, 4), 0, 0, 0, 1);
        Check.same("nothing", x.penalties(1), 0);
        Check.same("of the first one", x.penalties(0), 1);
        Check.same("the first one anew", x.anew(0, 6), 2);
        Check.same("the second one anew", x.anew(1, 3), 1);
        Check.row("the first one stays", linesOf(x, 0, 4), 0, 0, 0, 1, 1, 2, 2);
    }

    private static void promise25HighLines() {
        PressBox x = box(20, 20, 3);
        lines(x, 2);
        lines(x, 1);
        int layer = x.layer();
        x.pack(layer, 5, 3, 0);
        x.pack(layer, 6, 3, 0);
        x.pack(layer, 7, 3, 0);
        x.seal(layer);
        x.image(Check.codes(0, layer));
        x.include(0, 5, true);
        x.include(0, 6, true);
        x.run(0, 0, 1);
        Check.row("each alone", linesOf(x, 0, 4), 0, 1, 2);
        Check.same("a gap of 2, a first and a last line alone; none for the high page", x.penalties(0), 4 + 7 + 10);
        PressBox y = box(20, 20, 8);
        lines(y, 2);
        lines(y, 1);
        int two = y.layer();
        y.pack(two, 5, 3, 0);
        y.pack(two, 9, 3, 0);
        y.pack(two, 7, 3, 0);
        y.seal(two);
        y.image(Check.codes(0, two));
        y.include(0, 5, true);
        y.include(0, 9, true);
        y.run(0, 0, 1);
        Check.row("1 and 7 on a page of 8", linesOf(y, 0, 4), 0, 0, 1);
        Check.same("full", y.penalties(0), 0);
    }

    private static void promise26() {
        PressBox x = box(20, 20, 3);
        lines(x, 4);
        x.run(0, 0, 0);
        x.run(0, 0, 0);
        lines(x, 1);
        x.run(0, 0, 0);
        lines(x, 3);
        x.run(0, 0, 0);
        x.style(0, 0, 0);
        x.run(1, 0, 0);
        Check.same("itself", x.differences(0, 0), 0);
        Check.same("kept", x.differences(0, 1), 0);
        Check.row("4 and 1 lines", linesOf(x, 2, 4), 0, 0, 1, 1, 1);
        Check.same("a line more on the last page", x.differences(0, 2), 1);
        Check.row("4, 1 and 3", linesOf(x, 3, 4), 0, 0, 1, 1, 1, 2, 2, 2);
        Check.same("a page more", x.differences(2, 3), 1);
        Check.same("the other way round", x.differences(3, 2), 1);
        Check.same("two", x.differences(3, 0), 2);
        Check.same("no build", x.differences(0, 4), NONE);
        Check.same("no build", x.differences(4, 0), NONE);
        Check.same("no build, itself", x.differences(4, 4), NONE);
        Check.refused("job -1", Check.NO_SUCH, () -> x.differences(-1, 0));
        Check.refused("job 5", Check.NO_SUCH, () -> x.differences(5, 0));
        Check.refused("other -1", Check.NO_SUCH, () -> x.differences(0, -1));
        Check.refused("other 5", Check.NO_SUCH, () -> x.differences(0, 5));
        Check.refused("other 5, no build", Check.NO_SUCH, () -> x.differences(4, 5));
    }

    /** Documents whose lines have the same words, but not the same paragraphs or ends. */
    private static void promise26Paragraphs() {
        PressBox x = box(1, 20, 3);
        x.document(20, 3);
        x.document(40, 3);
        x.document(20, 3);
        for (int document = 0; document < 4; document++) {
            x.paragraph(document, 0);
            if (document == 1) {
                x.paragraph(document, 0);
            }
            int words = document == 3 ? 5 : 4;
            for (int i = 0; i < words; i++) {
                x.word(document, Check.letters(0, document == 3 && i == 2 ? 3 : 8));
            }
            x.run(0, document, 0);
        }
        Check.row("first words", linesOf(x, 0, 1), 0, 2);
        Check.row("first words of the last", linesOf(x, 3, 1), 0, 2, 4);
        Check.same("another paragraph", x.differences(0, 1), 1);
        Check.same("other last words", x.differences(0, 2), 1);
        Check.same("a line more", x.differences(0, 3), 1);
        x.include(0, 5, true);
        x.run(0, 0, 0);
        Check.same("the same lines of another build", x.differences(0, 4), 0);
        x.layer();
        x.font(1, 0, 2, ALL);
        x.seal(1);
        x.image(Check.codes(1));
        x.document(50, 3);
        x.paragraph(4, 0);
        x.word(4, Check.letters(0, 8));
        x.run(0, 4, 0);
        x.run(0, 4, 1);
        Check.same("another width", x.line(5, 0, 3) != x.line(6, 0, 3), true);
        Check.same("does not count", x.differences(5, 6), 0);
    }
}
