/** The boundaries of promises 22 to 26, and of what the document says of lines, pages and passes, each by itself. */
public final class EdgesOfPagesTest {
    private static final int ALL = Edge.ALL;
    private static final int NONE = PressBox.NONE;

    public static void main(String[] args) {
        fallbackOfTerms();
        coverOfTerms();
        referencesOfTerms();
        linesOfTerms();
        heightsOfTerms();
        pagesOfTerms();
        gapsOfTerms();
        bordersOfTerms();
        tiesOfTerms();
        shownOfTerms();
        passesOfTerms();
        fifthOfTerms();
        line();
        lineRefusals();
        shows();
        showsRefusals();
        anew();
        anewRefusals();
        penalties();
        differences();
        differencesRefusals();
        Edge.document().coversTerms("The width of a letter", "### Jobs");
        Edge.document().coversPromises(22, 26);
        Check.end("EdgesOfPagesTest");
    }

    // ---- what several edges begin with

    /** Image 0 has the font 0 of width 20 for all letters, the document 0 its measure and height, owner 0 enough. */
    private static void press(Edge e, int measure, int height) {
        e.call("layer");
        e.call("font", 0, 0, 20, ALL);
        e.call("seal", 0);
        e.call("image", 1);
        e.call("document", measure, height);
        e.call("quota", 0, 10000);
    }

    /** Image 1 has the packages 5, 6 .. with these spaces beside the font, and document 0 includes them. */
    private static void spaced(Edge e, int... spaces) {
        long layer = e.call("layer");
        for (int i = 0; i < spaces.length; i++) {
            e.call("pack", layer, 5 + i, spaces[i], 0);
            e.call("include", 0, 5 + i, 1);
        }
        e.call("seal", layer);
        e.call("image", layer + 1 << 8 | 1);
    }

    /** Spaces that are so many together. */
    private static int[] together(int space) {
        int[] spaces = new int[5];
        for (int i = 0; i < 5; i++) {
            spaces[i] = Math.max(0, Math.min(3, space - 3 * i));
        }
        return spaces;
    }

    /** A paragraph for each number, of so many words that are 20 wide: lines of their own for a measure below 30. */
    private static void paragraphs(Edge e, int... lines) {
        for (int count : lines) {
            e.call("paragraph", 0, 0);
            e.times(count, "word", 0, 1);
        }
    }

    /** Paragraphs told by their words: w for one that is 20 wide, a number for a reference. */
    private static void text(Edge e, String text) {
        for (String paragraph : text.split("[|]")) {
            e.call("paragraph", 0, 0);
            for (String word : paragraph.trim().split(" ")) {
                if (word.equals("w")) {
                    e.call("word", 0, 1);
                } else {
                    e.call("reference", 0, Integer.parseInt(word));
                }
            }
        }
    }

    /** Job 0 is of document 0, with paragraphs of so many lines, and of image 1, with so much space in all. */
    private static void set(Edge e, int height, int space, int... lines) {
        press(e, 20, height);
        spaced(e, together(space));
        paragraphs(e, lines);
        e.due(0, "run", 0, 0, 1);
    }

    private static void pages(Edge e, int job, long... want) {
        e.row("line", 1, new long[] {job, 0, 4}, want);
        e.due(NONE, "line", job, want.length, 4);
    }

    private static void widths(Edge e, int job, long... want) {
        e.row("line", 1, new long[] {job, 0, 3}, want);
        e.due(NONE, "line", job, want.length, 3);
    }

    // ---- widths

    /** The font f is f + 2 wide; each word has 8 times the same letter, so that it is a line by itself. */
    private static void fallbackOfTerms() {
        Edge e = new Edge(Edge.TERMS, "and the others by rising numbers from that on, 0 behind 4");
        int[][] covers = {{5, 8}, {6, 9}, {8}, {5, 9}, {6}};
        e.call("layer");
        for (int font = 0; font < 5; font++) {
            int cover = 0;
            for (int letter : covers[font]) {
                cover |= 1 << letter;
            }
            e.call("font", 0, font, font + 2, cover);
        }
        e.call("seal", 0);
        e.call("image", 1);
        e.call("document", 20, 12);
        e.call("quota", 0, 10000);
        for (int style = 0; style < 4; style++) {
            e.call("paragraph", 0, style);
            for (int letter : new int[] {5, 6, 8, 9}) {
                e.call("word", 0, Check.letters(letter, 8));
            }
        }
        e.call("run", 0, 0, 0);
        widths(e, 0, 16, 24, 16, 24, 40, 24, 32, 24, 40, 48, 32, 40, 40, 48, 16, 40);
        e.call("style", 0, 0, 4);
        e.call("run", 0, 0, 0);
        e.row("line", 1, new long[] {1, 0, 3}, 16, 48, 16, 24);
        Edge of = new Edge(Edge.TERMS,
            "the first font that the image has and that covers it, of the font of the style");
        of.times(3, "layer");
        of.call("font", 0, 1, 1, 3);
        of.call("font", 0, 2, 2, 3);
        of.call("font", 1, 1, 9, 2);
        of.call("hide", 2, 1);
        of.call("seal", 0);
        of.call("seal", 1);
        of.call("seal", 2);
        of.call("image", Check.codes(0));
        of.call("image", Check.codes(0, 1));
        of.call("image", Check.codes(0, 2));
        of.call("document", 20, 12);
        of.call("quota", 0, 10000);
        of.call("paragraph", 0, 1);
        of.call("word", 0, Check.codes(0, 0, 0, 0, 1, 1, 1, 1));
        for (int image = 0; image < 3; image++) {
            of.call("run", 0, 0, image);
        }
        widths(of, 0, 8);
        widths(of, 1, 8 + 36);
        widths(of, 2, 16);
    }

    private static void coverOfTerms() {
        Edge e = new Edge(Edge.TERMS, "10 without such a one");
        e.times(3, "layer");
        for (int font = 0; font < 5; font++) {
            e.call("font", 0, font, 1, ALL - 1);
            e.call("font", 1, font, 1, ALL >> 1);
        }
        e.call("seal", 0);
        e.call("seal", 1);
        e.call("seal", 2);
        for (int layer = 0; layer < 3; layer++) {
            e.call("image", layer + 1);
        }
        e.call("document", 20, 12);
        e.call("quota", 0, 10000);
        e.call("paragraph", 0, 3);
        e.call("word", 0, Check.letters(0, 8));
        e.call("word", 0, Check.letters(25, 8));
        for (int image = 0; image < 3; image++) {
            e.call("run", 0, 0, image);
        }
        widths(e, 0, 80, 8);
        widths(e, 1, 8, 80);
        widths(e, 2, 80, 80);
    }

    /** Eleven pages of a paragraph each, then one with references to the pages 9 and 10: 6 + 4 + 12 wide. */
    private static void referencesOfTerms() {
        Edge one = new Edge(Edge.TERMS, "as the figures of the number of the page that it shows, 6 each");
        press(one, 22, 3);
        spaced(one, 3);
        text(one, "w | w | w | w | w | w | w | w | w | w | w | 8 9");
        one.call("run", 0, 0, 1);
        one.due(9, "shows", 0, 11);
        one.due(10, "shows", 0, 12);
        widths(one, 0, 20, 20, 20, 20, 20, 20, 20, 20, 20, 20, 20, 22);
        Edge two = new Edge(Edge.TERMS, "as the figures of the number of the page");
        press(two, 21, 3);
        spaced(two, 3);
        text(two, "w | w | w | w | w | w | w | w | w | w | w | 8 9");
        two.call("run", 0, 0, 1);
        widths(two, 0, 20, 20, 20, 20, 20, 20, 20, 20, 20, 20, 20, 6, 12);
    }

    // ---- lines

    private static void linesOfTerms() {
        Edge full = new Edge(Edge.TERMS, "with a blank of 4 between each two, are at most as wide as the measure");
        press(full, 68, 12);
        paragraphs(full, 3, 4);
        full.call("run", 0, 0, 0);
        widths(full, 0, 68, 68, 20);
        full.row("line", 1, new long[] {0, 0, 2}, 2, 5, 6);
        Edge more = new Edge(Edge.TERMS, "are at most as wide as the measure");
        press(more, 67, 12);
        paragraphs(more, 3, 4);
        more.call("run", 0, 0, 0);
        widths(more, 0, 44, 20, 44, 44);
        more.row("line", 1, new long[] {0, 0, 1}, 0, 2, 3, 5);
        Edge one = new Edge(Edge.TERMS, "but at least one");
        press(one, 50, 12);
        one.call("paragraph", 0, 0);
        one.call("word", 0, Check.letters(0, 1));
        one.call("word", 0, Check.letters(0, 8));
        one.call("reference", 0, 0);
        one.call("word", 0, Check.letters(0, 3));
        one.call("run", 0, 0, 0);
        widths(one, 0, 20, 160, 6, 60);
        Edge none = new Edge(Edge.TERMS, "A paragraph without words has no line");
        press(none, 20, 12);
        paragraphs(none, 0, 1, 0, 0, 2, 0);
        none.call("run", 0, 0, 0);
        none.row("line", 1, new long[] {0, 0, 0}, 1, 4, 4, -1);
        none.due(3, "job", 0, 4);
        Edge empty = new Edge(Edge.TERMS, "without words has no line");
        press(empty, 20, 12);
        spaced(empty, 3);
        empty.call("run", 0, 0, 1);
        paragraphs(empty, 0, 0, 0, 0, 0, 0, 0, 0, 0, 0, 0, 0);
        empty.call("run", 0, 0, 1);
        for (int job = 0; job < 2; job++) {
            empty.row("job", 1, new long[] {job, 0}, PressBox.RAN, 5, job, 0, 0, 1, 32);
            empty.due(0, "penalties", job);
            empty.due(NONE, "line", job, 0, 0);
            empty.due(NONE, "anew", job, 0);
        }
    }

    // ---- pages

    private static void heightsOfTerms() {
        Edge one = new Edge(Edge.TERMS, "The height of a line is 1");
        set(one, 3, 0, 1, 1, 1, 3);
        pages(one, 0, 0, 0, 0, 1, 1, 1);
        Edge more = new Edge(Edge.TERMS, "that of the last one of a paragraph more by the spaces of all packages");
        set(more, 7, 2, 2, 1, 2, 1);
        pages(more, 0, 0, 0, 0, 1, 1, 1);
        more.due(0, "penalties", 0);
        Edge fifteen = new Edge(Edge.TERMS, "the spaces of all packages");
        set(fifteen, 12, 15, 1, 1, 2);
        pages(fifteen, 0, 0, 1, 2, 3);
        Edge both = new Edge(Edge.TERMS, "that the document includes and the image has");
        press(both, 20, 3);
        spaced(both, 1, 1);
        paragraphs(both, 1, 1, 1);
        both.call("run", 0, 0, 0);
        pages(both, 0, 0, 0, 0);
        both.call("run", 0, 0, 1);
        pages(both, 1, 0, 1, 2);
        both.call("include", 0, 6, 0);
        both.call("run", 0, 0, 1);
        pages(both, 2, 0, 1, 2);
        both.due(2, "penalties", 2);
        both.call("include", 0, 5, 0);
        both.call("run", 0, 0, 1);
        pages(both, 3, 0, 0, 0);
    }

    private static void pagesOfTerms() {
        Edge full = new Edge(Edge.TERMS, "together at most as high as a page");
        set(full, 4, 1, 1, 1, 1, 1);
        pages(full, 0, 0, 0, 1, 1);
        full.due(0, "penalties", 0);
        Edge above = new Edge(Edge.TERMS, "are together at most as high as a page");
        set(above, 3, 1, 1, 1, 1, 1);
        pages(above, 0, 0, 1, 2, 3);
        above.due(3, "penalties", 0);
        Edge alone = new Edge(Edge.TERMS, "or of one line");
        set(alone, 3, 3, 1, 2, 1);
        pages(alone, 0, 0, 1, 2, 3);
        alone.due(4, "job", 0, 3);
        Edge single = new Edge(Edge.TERMS, "as a page, or of one line");
        set(single, 3, 15, 1);
        pages(single, 0, 0);
        single.due(0, "penalties", 0);
        Edge sixty = new Edge(Edge.TERMS, "each of lines that follow one another");
        set(sixty, 3, 3, 5, 5, 5, 5, 5, 5, 5, 5, 5, 5, 5, 5);
        sixty.due(60, "job", 0, 4);
        sixty.due(36, "job", 0, 3);
        sixty.due(35, "line", 0, 59, 4);
        sixty.due(12 * (1 + 1 + 10), "penalties", 0);
    }

    /** Paragraphs of a line each, of which no two stand on a page of 12: each but the last one leaves a gap. */
    private static void gapsOfTerms() {
        for (int space = 6; space <= 15; space++) {
            Edge e = new Edge(Edge.TERMS, space <= 11 ? "the square of what is missing to its height"
                : "(0, if it is higher)");
            set(e, 12, space, 1, 1, 1);
            pages(e, 0, 0, 1, 2);
            int gap = Math.max(0, 11 - space);
            e.due(2 * gap * gap, "penalties", 0);
        }
        Edge last = new Edge(Edge.TERMS, "for each page but the last one");
        set(last, 12, 0, 1);
        last.due(0, "penalties", 0);
        Edge most = new Edge(Edge.TERMS, "what is missing to its height");
        set(most, 12, 15, 2);
        pages(most, 0, 0, 1);
        most.due(11 * 11 + 7 + 10, "penalties", 0);
    }

    private static void bordersOfTerms() {
        Edge first = new Edge(Edge.TERMS,
            "7, if the line ahead is the first one of a paragraph that has more than one");
        set(first, 3, 1, 1, 3);
        pages(first, 0, 0, 0, 1, 1);
        first.due(7, "penalties", 0);
        Edge ahead = new Edge(Edge.TERMS, "of a paragraph that has more than one");
        set(ahead, 3, 2, 1, 1, 1);
        pages(ahead, 0, 0, 1, 2);
        ahead.due(0, "penalties", 0);
        Edge last = new Edge(Edge.TERMS, "10, if the line behind is the last one of such a paragraph");
        set(last, 3, 3, 4);
        pages(last, 0, 0, 0, 0, 1);
        last.due(10, "penalties", 0);
        Edge behind = new Edge(Edge.TERMS, "the last one of such a paragraph");
        set(behind, 3, 0, 3, 1);
        pages(behind, 0, 0, 0, 0, 1);
        behind.due(0, "penalties", 0);
        Edge both = new Edge(Edge.TERMS, "for each border between two pages");
        set(both, 3, 3, 2, 2);
        pages(both, 0, 0, 1, 2, 3);
        both.due(2 * (2 * 2 + 7 + 10), "penalties", 0);
    }

    private static void tiesOfTerms() {
        Edge second = new Edge(Edge.TERMS, "of several ways that with more lines on the first page that differs");
        set(second, 3, 0, 7);
        pages(second, 0, 0, 0, 0, 1, 1, 2, 2);
        second.due(1, "penalties", 0);
        Edge third = new Edge(Edge.TERMS, "with more lines on the first page that differs");
        set(third, 4, 0, 13);
        pages(third, 0, 0, 0, 0, 0, 1, 1, 1, 1, 2, 2, 2, 3, 3);
        third.due(1, "penalties", 0);
        Edge least = new Edge(Edge.TERMS, "so that the sum of the penalties is the least");
        set(least, 3, 0, 4);
        pages(least, 0, 0, 0, 1, 1);
        least.due(1, "penalties", 0);
    }

    // ---- passes

    private static void shownOfTerms() {
        Edge one = new Edge(Edge.TERMS, "Pages are numbered from 1 when they are shown");
        press(one, 20, 3);
        text(one, "w w w | w w | 0 1");
        one.call("run", 0, 0, 0);
        pages(one, 0, 0, 0, 0, 1, 1, 1);
        one.due(1, "shows", 0, 5);
        one.due(2, "shows", 0, 6);
        Edge first = new Edge(Edge.TERMS, "in the first one each reference shows 1");
        press(first, 20, 3);
        text(first, "0 w | 0 1");
        first.call("run", 0, 0, 0);
        first.due(1, "job", 0, 5);
        first.row("shows", 1, new long[] {0, 0}, 1, -1, 1, 1, -1);
        Edge begins = new Edge(Edge.TERMS, "the page on which the first line of its paragraph was in the pass ahead");
        press(begins, 20, 3);
        text(begins, "w w w | w w w w w | 1");
        begins.call("run", 0, 0, 0);
        pages(begins, 0, 0, 0, 0, 1, 1, 1, 2, 2, 2);
        begins.due(2, "shows", 0, 8);
        Edge none = new Edge(Edge.TERMS, "(1, if it has none)");
        press(none, 20, 3);
        paragraphs(none, 3, 3, 0, 3);
        none.call("reference", 0, 2);
        none.call("reference", 0, 1);
        none.call("run", 0, 0, 0);
        none.due(1, "shows", 0, 9);
        none.due(2, "shows", 0, 10);
        Edge all = new Edge(Edge.TERMS, "if it has none");
        press(all, 20, 3);
        paragraphs(all, 0, 0);
        all.call("reference", 0, 0);
        all.call("run", 0, 0, 0);
        all.due(1, "shows", 0, 0);
        all.due(1, "job", 0, 5);
    }

    private static void passesOfTerms() {
        Edge end = new Edge(Edge.TERMS, "the passes end when no reference would show something else than it does");
        press(end, 20, 3);
        paragraphs(end, 3, 3);
        end.call("run", 0, 0, 0);
        end.due(1, "job", 0, 5);
        end.call("reference", 0, 0);
        end.call("run", 0, 0, 0);
        end.due(1, "job", 1, 5);
        end.call("reference", 0, 1);
        end.call("run", 0, 0, 0);
        end.due(2, "job", 2, 5);
        settles(new Edge(Edge.TERMS, "the passes end when no reference"), 30, 4, 3, 3, 12,
            "w | w | 2 | 1 | 4 | 1 | 2 | w | w | 9 w | 10");
        settles(new Edge(Edge.TERMS, "when no reference would show something else"), 21, 6, 3, 4, 16,
            "w | w | w | w | w | w | w | w | 8 | w 9 8 9 8 | 9 10 w w");
    }

    /** A job that ends with these passes, in which each reference shows the page on which its paragraph begins. */
    private static void settles(Edge e, int measure, int height, int space, int passes, int lines, String text) {
        press(e, measure, height);
        spaced(e, space);
        text(e, text);
        e.due(0, "run", 0, 0, 1);
        e.due(passes, "job", 0, 5);
        e.due(lines, "job", 0, 4);
        e.due(passes * (5 + lines), "job", 0, 1);
        long[] begins = new long[12];
        for (int line = lines - 1; line >= 0; line--) {
            begins[(int) e.call("line", 0, line, 0)] = e.call("line", 0, line, 4) + 1;
        }
        String[] words = text.replace("| ", "").split(" ");
        for (int word = 0; word < words.length; word++) {
            boolean refers = !words[word].equals("w");
            e.due(refers ? begins[Integer.parseInt(words[word])] : NONE, "shows", 0, word);
        }
    }

    /**
     * With one figure each, four references are two lines behind page 9; with two figures they are four lines, of
     * which two stand on page 9 at no penalty: so they show 1, 10, 9, 10, 9, and would show 10. The other text settles
     * with the fifth pass itself.
     */
    private static void fifthOfTerms() {
        Edge never = new Edge(Edge.TERMS, "or with the fifth");
        press(never, 20, 5);
        spaced(never, 2);
        text(never, "w | w | w | w | w | w | w | w | w | 9 9 9 9");
        never.call("run", 0, 0, 1);
        never.due(5, "job", 0, 5);
        never.due(9, "shows", 0, 9);
        never.due(9, "line", 0, 9, 4);
        never.due(5 * (5 + 11), "job", 0, 1);
        settles(new Edge(Edge.TERMS, "would show something else than it does, or with the fifth"), 22, 4, 0, 5, 40,
            "0 | 0 | 2 w w | w w 1 w 2 w w 2 w 3 | 4 3 4 2 3 | 4 5 4 w 5 w 4 w 5 | 6 | 6 5 w | 8 7 | 9 9 | 8 10 w 8 w"
            + " | w 9 10 11");
    }

    // ---- promise 22

    /** Document 0 with two pages of two lines, job 0 with a build of it, and job 1 without one. */
    private static void twoJobs(Edge e) {
        press(e, 20, 3);
        paragraphs(e, 4);
        e.due(0, "run", 0, 0, 0);
        e.call("style", 0, 3, 3);
        e.due(1, "run", 1, 0, 0);
        e.due(PressBox.STOPPED, "job", 1, 0);
    }

    private static void line() {
        Edge from = new Edge(22, "@param line from 0 on");
        twoJobs(from);
        from.due(0, "line", 0, 0, 4);
        from.due(1, "line", 0, 3, 4);
        from.refused(Check.NO_SUCH, "line", 0, -1, 4);
        from.refused(Check.NO_SUCH, "line", 0, Integer.MIN_VALUE, 4);
        Edge what = new Edge(22,
            "0 its paragraph, 1 its first word, 2 its last one, 3 its width, 4 its page, from 0 on");
        press(what, 44, 3);
        paragraphs(what, 1, 8);
        what.call("run", 0, 0, 0);
        what.row("line", 2, new long[] {0, 0, 0}, 0, 0, 0, 20, 0);
        what.row("line", 2, new long[] {0, 1, 0}, 1, 1, 2, 44, 0);
        what.row("line", 2, new long[] {0, 4, 0}, 1, 7, 8, 44, 1);
        Edge none = new Edge(22, "NONE if it has not so many, or no build");
        twoJobs(none);
        for (int number = 0; number < 5; number++) {
            none.due(NONE, "line", 0, 4, number);
            none.due(NONE, "line", 0, 60, number);
            none.due(NONE, "line", 0, Integer.MAX_VALUE, number);
            none.due(NONE, "line", 1, 0, number);
            none.due(NONE, "line", 1, Integer.MAX_VALUE, number);
        }
    }

    private static void lineRefusals() {
        Edge job = new Edge(22, "IndexOutOfBoundsException if there is no such job");
        twoJobs(job);
        job.numbers(2, 0, "line", 0, 0, 0);
        job.refused(Check.NO_SUCH, "line", 2, 0, 5);
        job.refused(Check.NO_SUCH, "line", -1, 0, -1);
        Edge below = new Edge(22, "or line is below 0");
        twoJobs(below);
        below.refused(Check.NO_SUCH, "line", 0, -1, 5);
        below.refused(Check.NO_SUCH, "line", 1, -1, 0);
        below.refused(Check.NO_SUCH, "line", 1, -1, -1);
        Edge what = new Edge(22, "IllegalArgumentException if what is out of its range");
        twoJobs(what);
        what.range(0, 4, 2, "line", 0, 0, 0);
        what.range(0, 4, 2, "line", 0, 4, 0);
        what.range(0, 4, 2, "line", 1, 0, 0);
    }

    // ---- promise 23

    private static void shows() {
        Edge from = new Edge(23, "the page, from 1 on");
        press(from, 20, 3);
        text(from, "w w w | w w | 0 1");
        from.call("run", 0, 0, 0);
        from.due(1, "shows", 0, 5);
        from.due(2, "shows", 0, 6);
        Edge none = new Edge(23, "NONE if it is no reference, there is no such word in it, or no build");
        press(none, 20, 3);
        text(none, "w 0");
        none.due(0, "run", 0, 0, 0);
        none.row("shows", 1, new long[] {0, 0}, -1, 1, -1);
        none.due(NONE, "shows", 0, 59);
        none.due(NONE, "shows", 0, 60);
        none.due(NONE, "shows", 0, Integer.MAX_VALUE);
        none.call("reference", 0, 0);
        none.due(NONE, "shows", 0, 2);
        none.due(1, "run", 1, 0, 0);
        none.row("shows", 1, new long[] {1, 0}, -1, -1, -1, -1);
        none.due(2, "run", 0, 0, 0);
        none.row("shows", 1, new long[] {2, 0}, -1, 1, 1, -1);
        Edge full = new Edge(23, "there is no such word in it");
        press(full, 20, 3);
        full.call("paragraph", 0, 0);
        full.times(60, "reference", 0, 0);
        full.call("run", 0, 0, 0);
        full.due(1, "shows", 0, 59);
        full.due(NONE, "shows", 0, 60);
    }

    private static void showsRefusals() {
        Edge job = new Edge(23, "IndexOutOfBoundsException if there is no such job");
        twoJobs(job);
        job.numbers(2, 0, "shows", 0, 0);
        job.refused(Check.NO_SUCH, "shows", 2, -1);
        Edge below = new Edge(23, "or word is below 0");
        twoJobs(below);
        below.due(NONE, "shows", 0, 0);
        below.refused(Check.NO_SUCH, "shows", 0, -1);
        below.refused(Check.NO_SUCH, "shows", 0, Integer.MIN_VALUE);
        below.refused(Check.NO_SUCH, "shows", 1, -1);
    }

    // ---- promise 24

    private static void anew() {
        Edge as = new Edge(24, "Returns the page of a line as line() with 4");
        twoJobs(as);
        as.row("anew", 1, new long[] {0, 0}, 0, 0, 1, 1, -1);
        as.row("anew", 1, new long[] {1, 0}, 0, 0, 1, 1, -1);
        Edge from = new Edge(24, "@param line from 0 on");
        twoJobs(from);
        from.due(0, "anew", 0, 0);
        from.refused(Check.NO_SUCH, "anew", 0, -1);
        Edge none = new Edge(24, "NONE if there are not so many lines, or its image is gone");
        twoJobs(none);
        none.due(1, "anew", 0, 3);
        none.due(NONE, "anew", 0, 4);
        none.due(NONE, "anew", 0, 60);
        none.due(NONE, "anew", 0, Integer.MAX_VALUE);
        none.call("image", 1);
        none.due(0, "drop", 0);
        none.due(1, "anew", 0, 3);
        none.due(1, "drop", 0);
        none.due(NONE, "anew", 0, 3);
        none.due(NONE, "anew", 1, 0);
        none.due(1, "line", 0, 3, 4);
        none.call("layer");
        none.call("font", 1, 0, 20, ALL);
        none.call("seal", 1);
        none.due(1, "image", 2);
        none.due(NONE, "anew", 0, 3);
        Edge now = new Edge(24, "if the job ran now without builds, as the document and the image are now");
        twoJobs(now);
        paragraphs(now, 0, 56);
        now.refused(Check.STATE, "word", 0, 1);
        now.due(NONE, "line", 0, 4, 4);
        now.due(20, "anew", 0, 59);
        now.due(NONE, "anew", 0, 60);
        now.row("left", 0, new long[] {0}, 10000 - 9, 0);
        now.due(2, "run", 0, 0, 0);
        now.due(PressBox.RAN, "job", 2, 0);
        now.due(1, "job", 2, 2);
    }

    private static void anewRefusals() {
        Edge job = new Edge(24, "IndexOutOfBoundsException if there is no such job");
        twoJobs(job);
        job.numbers(2, 0, "anew", 0, 0);
        job.refused(Check.NO_SUCH, "anew", 2, -1);
        Edge below = new Edge(24, "or line is below 0");
        twoJobs(below);
        below.refused(Check.NO_SUCH, "anew", 0, Integer.MIN_VALUE);
        below.refused(Check.NO_SUCH, "anew", 1, -1);
        below.due(1, "drop", 0);
        below.refused(Check.NO_SUCH, "anew", 0, -1);
    }

    // ---- promise 25

    private static void penalties() {
        Edge none = new Edge(25, "NONE without a build");
        twoJobs(none);
        none.due(1, "penalties", 0);
        none.due(NONE, "penalties", 1);
        Edge nothing = new Edge(25, "@return the sum");
        press(nothing, 20, 3);
        nothing.call("run", 0, 0, 0);
        nothing.due(0, "penalties", 0);
        paragraphs(nothing, 3);
        nothing.call("run", 0, 0, 0);
        nothing.due(0, "penalties", 1);
        paragraphs(nothing, 4);
        nothing.call("run", 0, 0, 0);
        nothing.due(1, "penalties", 2);
        nothing.call("document", 20, 3);
        nothing.call("run", 0, 1, 0);
        nothing.due(0, "penalties", 3);
        Edge job = new Edge(25, "IndexOutOfBoundsException if there is no such job");
        twoJobs(job);
        job.numbers(2, 0, "penalties", 0);
    }

    // ---- promise 26

    private static void differences() {
        Edge alone = new Edge(26, "or are there in one alone");
        press(alone, 20, 3);
        alone.call("document", 20, 3);
        alone.due(0, "run", 0, 0, 0);
        alone.due(1, "run", 0, 1, 0);
        alone.due(0, "differences", 0, 1);
        paragraphs(alone, 3);
        alone.due(2, "run", 0, 0, 0);
        alone.due(1, "differences", 0, 2);
        alone.due(1, "differences", 2, 0);
        paragraphs(alone, 6);
        alone.due(3, "run", 0, 0, 0);
        alone.due(2, "differences", 2, 3);
        alone.due(2, "differences", 3, 2);
        alone.due(3, "differences", 3, 1);
        Edge same = new Edge(26, "@param other another one, or the same");
        twoJobs(same);
        same.due(0, "differences", 0, 0);
        same.due(NONE, "differences", 1, 1);
        Edge lines = new Edge(26, "have other lines (paragraph, first and last word) than that of the same number");
        otherLines(lines);
        Edge none = new Edge(26, "NONE if one has no build");
        twoJobs(none);
        none.due(NONE, "differences", 0, 1);
        none.due(NONE, "differences", 1, 0);
    }

    /** Documents of a page each that differ from document 0 in one thing: paragraph, last word, and number of lines. */
    private static void otherLines(Edge e) {
        press(e, 20, 3);
        e.call("document", 20, 3);
        e.call("document", 44, 3);
        e.call("document", 20, 3);
        e.call("document", 20, 3);
        for (int document = 0; document < 5; document++) {
            e.call("paragraph", document, 0);
            if (document == 1) {
                e.call("paragraph", document, 0);
            }
            e.times(document == 3 ? 3 : 2, "word", document, document == 4 ? 514 : 1);
            e.due(document, "run", 0, document, 0);
        }
        e.row("differences", 1, new long[] {0, 0}, 0, 1, 1, 1, 0);
        e.due(20, "line", 0, 0, 3);
        e.due(40, "line", 4, 0, 3);
        Edge ends = new Edge(26, "(paragraph, first and last word)");
        press(ends, 44, 3);
        spaced(ends, 3);
        ends.call("document", 44, 3);
        ends.call("include", 1, 5, 1);
        text(ends, "w w w w");
        ends.call("paragraph", 1, 0);
        ends.times(3, "reference", 1, 0);
        ends.call("word", 1, 1);
        ends.due(0, "run", 0, 0, 1);
        ends.due(1, "run", 0, 1, 1);
        ends.row("line", 2, new long[] {0, 0, 0}, 0, 0, 1, 44, 0);
        ends.row("line", 2, new long[] {1, 0, 0}, 0, 0, 2, 26, 0);
        ends.row("line", 2, new long[] {0, 1, 0}, 0, 2, 3, 44, 1);
        ends.row("line", 2, new long[] {1, 1, 0}, 0, 3, 3, 20, 1);
        ends.due(2, "differences", 0, 1);
        ends.due(2, "differences", 1, 0);
    }

    private static void differencesRefusals() {
        Edge job = new Edge(26, "IndexOutOfBoundsException if there is no such job, of either");
        twoJobs(job);
        job.numbers(2, 0, "differences", 0, 0);
        job.numbers(2, 1, "differences", 0, 0);
        job.refused(Check.NO_SUCH, "differences", 2, 2);
        job.refused(Check.NO_SUCH, "differences", 1, 2);
        job.refused(Check.NO_SUCH, "differences", 2, 1);
    }
}
