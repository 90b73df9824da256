/** The boundaries of promises 11 to 17, and of what the document says of what is in a document, each by itself. */
public final class EdgesOfDocumentsTest {
    private static final int ALL = Edge.ALL;

    public static void main(String[] args) {
        documentsOfTerms();
        measuresOfTerms();
        heightsOfTerms();
        stylesOfTerms();
        wordsOfTerms();
        versionOfTerms();
        documentRanges();
        documentRefusals();
        style();
        include();
        paragraph();
        wordRanges();
        wordRefusals();
        reference();
        version();
        Edge.document().coversTerms("Documents are numbered from 0", "The width of a letter");
        Edge.document().coversPromises(11, 17);
        Check.end("EdgesOfDocumentsTest");
    }

    // ---- what several edges begin with

    /** Image 0 has the font 0 of a width that covers all, and owner 0 enough for many jobs. */
    private static void press(Edge e, int width) {
        e.call("layer");
        e.call("font", 0, 0, width, ALL);
        e.call("seal", 0);
        e.call("image", 1);
        e.call("quota", 0, 10000);
    }

    /** Document 0 with paragraphs of style 0 and no words. */
    private static void paragraphs(Edge e, int count) {
        e.due(0, "document", 20, 3);
        for (int paragraph = 0; paragraph < count; paragraph++) {
            e.due(paragraph, "paragraph", 0, 0);
        }
    }

    private static void documents(Edge e, int count) {
        for (int document = 0; document < count; document++) {
            e.due(document, "document", 20 + document, 3 + document);
        }
    }

    // ---- terms

    private static void documentsOfTerms() {
        Edge count = new Edge(Edge.TERMS, "Documents are numbered from 0, at most 6");
        documents(count, 6);
        count.refused(Check.STATE, "document", 20, 3);
        count.numbers(6, 0, "version", 0);
        Edge paragraphs = new Edge(Edge.TERMS, "and paragraphs, at most 12, each of a style");
        paragraphs(paragraphs, 12);
        paragraphs.refused(Check.STATE, "paragraph", 0, 3);
        paragraphs.due(0, "reference", 0, 11);
        paragraphs.due(13, "version", 0);
        Edge words = new Edge(Edge.TERMS, "with words, at most 60 in all");
        paragraphs(words, 1);
        words.times(29, "word", 0, 1);
        words.call("paragraph", 0, 0);
        words.times(30, "reference", 0, 1);
        words.due(59, "word", 0, 1);
        words.refused(Check.STATE, "word", 0, 1);
        words.refused(Check.STATE, "reference", 0, 1);
        words.call("paragraph", 0, 0);
        words.refused(Check.STATE, "word", 0, 1);
        words.due(63, "version", 0);
    }

    /** The measure 20 takes 8 + 4 + 8, but not 8 + 4 + 9; 200 takes 98 + 4 + 98, but not 98 + 4 + 99. */
    private static void measuresOfTerms() {
        Edge e = new Edge(Edge.TERMS, "has a measure, 20 to 200");
        e.due(0, "document", 20, 12);
        e.due(1, "document", 200, 12);
        e.refused(Check.RANGE, "document", 19, 12);
        e.refused(Check.RANGE, "document", 201, 12);
        e.call("quota", 0, 10000);
        for (int document = 0; document < 2; document++) {
            e.due(document, "layer");
            e.call("font", document, 0, document == 0 ? 4 : 14, 1);
            e.call("font", document, 1, document == 0 ? 5 : 15, 2);
            e.call("seal", document);
            e.due(document, "image", document + 1);
            long first = Check.letters(0, document == 0 ? 1 : 6);
            e.call("paragraph", document, 0);
            e.times(2, "word", document, first << 8 | 1);
            e.call("paragraph", document, 0);
            e.call("word", document, first << 8 | 1);
            e.call("word", document, first << 8 | 2);
            e.call("run", 0, document, document);
        }
        e.row("line", 1, new long[] {0, 0, 3}, 20, 8, 9, -1);
        e.row("line", 1, new long[] {1, 0, 3}, 200, 98, 99, -1);
    }

    /** A page of 3 takes three lines, a page of 12 takes twelve; two more stand on the next one. */
    private static void heightsOfTerms() {
        Edge e = new Edge(Edge.TERMS, "the height of its pages, 3 to 12");
        press(e, 20);
        e.due(0, "document", 20, 3);
        e.due(1, "document", 20, 12);
        e.refused(Check.RANGE, "document", 20, 2);
        e.refused(Check.RANGE, "document", 20, 13);
        e.call("paragraph", 0, 0);
        e.call("paragraph", 1, 0);
        e.times(3, "word", 0, 1);
        e.times(12, "word", 1, 1);
        e.call("run", 0, 0, 0);
        e.call("run", 0, 1, 0);
        e.due(1, "job", 0, 3);
        e.due(1, "job", 1, 3);
        e.times(2, "word", 0, 1);
        e.times(2, "word", 1, 1);
        e.call("run", 0, 0, 0);
        e.call("run", 0, 1, 0);
        e.row("line", 1, new long[] {2, 0, 4}, 0, 0, 0, 1, 1, -1);
        e.row("line", 1, new long[] {3, 0, 4}, 0, 0, 0, 0, 0, 0, 0, 0, 0, 0, 0, 0, 1, 1, -1);
    }

    private static void stylesOfTerms() {
        Edge e = new Edge(Edge.TERMS, "a font for each of the styles 0 to 3, at first those of the same numbers");
        documents(e, 2);
        e.row("style", 1, new long[] {0, 0, 4}, 0, 1, 2, 3);
        e.row("style", 1, new long[] {0, 0, 0}, 4, 4, 4, 4);
        e.refused(Check.RANGE, "style", 0, 4, 0);
        e.row("style", 1, new long[] {1, 0, 0}, 0, 1, 2, 3);
    }

    private static void wordsOfTerms() {
        Edge letters = new Edge(Edge.TERMS, "A word is 1 to 8 letters");
        paragraphs(letters, 1);
        press(letters, 1);
        letters.refused(Check.RANGE, "word", 0, 0);
        letters.due(0, "word", 0, Check.letters(25, 1));
        letters.due(1, "word", 0, Check.letters(25, 8));
        letters.call("run", 0, 0, 0);
        letters.due(1 + 4 + 8, "line", 0, 0, 3);
        Edge own = new Edge(Edge.TERMS, "or a reference to a paragraph of the document, that of the word included");
        paragraphs(own, 2);
        own.call("document", 20, 3);
        own.call("paragraph", 1, 0);
        own.due(0, "reference", 0, 1);
        own.due(1, "reference", 0, 0);
        own.refused(Check.NO_SUCH, "reference", 0, 2);
        own.refused(Check.NO_SUCH, "reference", 1, 1);
        own.due(0, "reference", 1, 0);
    }

    private static void versionOfTerms() {
        Edge e = new Edge(Edge.TERMS, "is 0 at first, and grows by 1 with each call that tells something of it");
        e.due(0, "document", 20, 3);
        e.due(0, "version", 0);
        e.call("style", 0, 0, 1);
        e.due(1, "version", 0);
        e.call("include", 0, 5, 1);
        e.due(2, "version", 0);
        e.call("paragraph", 0, 0);
        e.due(3, "version", 0);
        e.call("word", 0, 1);
        e.due(4, "version", 0);
        e.call("reference", 0, 0);
        e.due(5, "version", 0);
        e.call("style", 0, 0, 1);
        e.due(6, "version", 0);
        e.call("include", 0, 5, 1);
        e.due(7, "version", 0);
        e.call("include", 0, 9, 0);
        e.due(8, "version", 0);
    }

    // ---- promise 11

    private static void documentRanges() {
        Edge measure = new Edge(11, "@param measure 20 to 200");
        measure.range(20, 200, 0, "document", 0, 3);
        measure.due(2, "document", 100, 3);
        Edge height = new Edge(11, "@param height 3 to 12");
        height.range(3, 12, 1, "document", 20, 0);
        height.due(2, "document", 20, 7);
    }

    private static void documentRefusals() {
        Edge range = new Edge(11, "IllegalArgumentException if an argument is out of its range");
        documents(range, 6);
        range.refused(Check.RANGE, "document", 19, 3);
        range.refused(Check.RANGE, "document", 201, 3);
        range.refused(Check.RANGE, "document", 20, 2);
        range.refused(Check.RANGE, "document", 20, 13);
        range.refused(Check.RANGE, "document", 0, 0);
        Edge six = new Edge(11, "IllegalStateException if there are 6");
        documents(six, 6);
        six.refused(Check.STATE, "document", 20, 3);
        six.refused(Check.STATE, "document", 200, 12);
        six.due(0, "paragraph", 5, 0);
    }

    // ---- promise 12

    private static void style() {
        Edge style = new Edge(12, "@param style 0 to 3");
        documents(style, 1);
        style.range(0, 3, 1, "style", 0, 0, 4);
        style.row("style", 1, new long[] {0, 0, 0}, 4, 1, 2, 4);
        Edge font = new Edge(12, "@param font 0 to 4");
        documents(font, 1);
        font.range(0, 4, 2, "style", 0, 1, 0);
        font.due(4, "style", 0, 1, 0);
        Edge before = new Edge(12, "@return the one before");
        documents(before, 1);
        before.due(2, "style", 0, 2, 2);
        before.due(2, "style", 0, 2, 4);
        before.due(4, "style", 0, 2, 0);
        before.due(0, "style", 0, 2, 0);
        Edge document = new Edge(12, "IndexOutOfBoundsException if there is no such document");
        documents(document, 3);
        document.numbers(3, 0, "style", 0, 0, 0);
        document.refused(Check.NO_SUCH, "style", 3, 4, 5);
        document.refused(Check.NO_SUCH, "style", -1, -1, -1);
        Edge range = new Edge(12, "IllegalArgumentException if another argument is out of its range");
        documents(range, 1);
        range.refused(Check.RANGE, "style", 0, -1, 0);
        range.refused(Check.RANGE, "style", 0, 4, 0);
        range.refused(Check.RANGE, "style", 0, 0, -1);
        range.refused(Check.RANGE, "style", 0, 0, 5);
        range.due(0, "version", 0);
    }

    // ---- promise 13

    private static void include() {
        Edge file = new Edge(13, "@param file 5 to 9");
        documents(file, 1);
        file.range(5, 9, 1, "include", 0, 0, 1);
        file.due(1, "include", 0, 5, 1);
        file.due(0, "include", 0, 6, 1);
        file.due(0, "include", 0, 8, 1);
        file.due(1, "include", 0, 9, 1);
        Edge is = new Edge(13, "@return whether it was");
        documents(is, 2);
        is.due(0, "include", 0, 7, 0);
        is.due(0, "include", 0, 7, 1);
        is.due(1, "include", 0, 7, 1);
        is.due(1, "include", 0, 7, 0);
        is.due(0, "include", 0, 7, 0);
        is.due(0, "include", 1, 7, 0);
        Edge document = new Edge(13, "IndexOutOfBoundsException if there is no such document");
        documents(document, 3);
        document.numbers(3, 0, "include", 0, 5, 1);
        document.refused(Check.NO_SUCH, "include", 3, 4, 1);
        document.refused(Check.NO_SUCH, "include", -1, 10, 0);
        Edge range = new Edge(13, "IllegalArgumentException if file is out of its range");
        documents(range, 1);
        range.refused(Check.RANGE, "include", 0, 4, 0);
        range.refused(Check.RANGE, "include", 0, 10, 0);
        range.refused(Check.RANGE, "include", 0, 0, 1);
        range.due(0, "version", 0);
    }

    // ---- promise 14

    private static void paragraph() {
        Edge style = new Edge(14, "@param style 0 to 3");
        documents(style, 1);
        style.range(0, 3, 1, "paragraph", 0, 0);
        style.due(2, "paragraph", 0, 1);
        Edge document = new Edge(14, "IndexOutOfBoundsException if there is no such document");
        documents(document, 3);
        document.numbers(3, 0, "paragraph", 0, 0);
        document.refused(Check.NO_SUCH, "paragraph", 3, 4);
        document.refused(Check.NO_SUCH, "paragraph", -1, -1);
        Edge range = new Edge(14, "IllegalArgumentException if style is out of its range");
        paragraphs(range, 12);
        range.refused(Check.RANGE, "paragraph", 0, -1);
        range.refused(Check.RANGE, "paragraph", 0, 4);
        Edge twelve = new Edge(14, "IllegalStateException if it has 12");
        paragraphs(twelve, 12);
        twelve.refused(Check.STATE, "paragraph", 0, 0);
        twelve.refused(Check.STATE, "paragraph", 0, 3);
        twelve.due(1, "document", 20, 3);
        twelve.due(0, "paragraph", 1, 0);
    }

    // ---- promise 15

    private static void wordRanges() {
        Edge bits = new Edge(15, "each in 8 bits as 1 more than the letter");
        paragraphs(bits, 1);
        press(bits, 1);
        bits.due(0, "word", 0, 1);
        bits.due(1, "word", 0, 26);
        bits.refused(Check.RANGE, "word", 0, 27);
        bits.refused(Check.RANGE, "word", 0, 127);
        bits.refused(Check.RANGE, "word", 0, 128);
        bits.refused(Check.RANGE, "word", 0, 255);
        bits.due(2, "word", 0, 26L << 56 | 1L << 48 | 26L << 40 | 1L << 32 | 26L << 24 | 1L << 16 | 26L << 8 | 1);
        bits.refused(Check.RANGE, "word", 0, 27L << 56 | Check.letters(0, 7));
        bits.refused(Check.RANGE, "word", 0, 128L << 56 | Check.letters(0, 7));
        bits.call("run", 0, 0, 0);
        bits.row("line", 1, new long[] {0, 0, 3}, 1 + 4 + 1 + 4 + 8, -1);
        Edge behind = new Edge(15, "behind the last one all is 0");
        paragraphs(behind, 1);
        behind.refused(Check.RANGE, "word", 0, 1L << 8);
        behind.refused(Check.RANGE, "word", 0, 1L << 56);
        behind.refused(Check.RANGE, "word", 0, 1L | 1L << 16);
        behind.refused(Check.RANGE, "word", 0, 1L | 1L << 56);
        behind.refused(Check.RANGE, "word", 0, 1L | Long.MIN_VALUE);
        behind.refused(Check.RANGE, "word", 0, Check.letters(3, 6) | 1L << 56);
        behind.due(0, "word", 0, Check.letters(3, 6));
        Edge number = new Edge(15, "@return its number, through the whole document");
        paragraphs(number, 1);
        number.due(0, "word", 0, 1);
        number.call("paragraph", 0, 0);
        number.due(1, "reference", 0, 0);
        number.call("paragraph", 0, 0);
        number.call("paragraph", 0, 0);
        number.due(2, "word", 0, 1);
    }

    private static void wordRefusals() {
        Edge document = new Edge(15, "IndexOutOfBoundsException if there is no such document");
        documents(document, 3);
        document.call("paragraph", 0, 0);
        document.call("paragraph", 2, 0);
        document.numbers(3, 0, "word", 0, 1);
        document.refused(Check.NO_SUCH, "word", 3, 0);
        document.refused(Check.NO_SUCH, "word", -1, 27);
        Edge letter = new Edge(15, "IllegalArgumentException if it has no letter");
        documents(letter, 1);
        letter.refused(Check.RANGE, "word", 0, 0);
        letter.call("paragraph", 0, 0);
        letter.refused(Check.RANGE, "word", 0, 0);
        letter.refused(Check.RANGE, "word", 0, 256);
        letter.times(60, "word", 0, 1);
        letter.refused(Check.RANGE, "word", 0, 0);
        Edge none = new Edge(15, "or something is none");
        documents(none, 1);
        none.refused(Check.RANGE, "word", 0, 27);
        none.call("paragraph", 0, 0);
        none.refused(Check.RANGE, "word", 0, Check.codes(0, 25, 26));
        none.refused(Check.RANGE, "word", 0, Check.codes(26, 0));
        none.refused(Check.RANGE, "word", 0, -1);
        none.refused(Check.RANGE, "word", 0, Long.MAX_VALUE);
        none.times(60, "word", 0, 1);
        none.refused(Check.RANGE, "word", 0, 27);
        Edge paragraph = new Edge(15, "IllegalStateException if there is no paragraph");
        documents(paragraph, 2);
        paragraph.refused(Check.STATE, "word", 0, 1);
        paragraph.call("paragraph", 1, 0);
        paragraph.refused(Check.STATE, "word", 0, 1);
        paragraph.due(0, "word", 1, 1);
        paragraph.call("paragraph", 0, 0);
        paragraph.due(0, "word", 0, 1);
        Edge sixty = new Edge(15, "or there are 60 words");
        documents(sixty, 2);
        sixty.call("paragraph", 0, 0);
        sixty.call("paragraph", 1, 0);
        for (int word = 0; word < 60; word++) {
            sixty.due(word, "word", 0, 1);
        }
        sixty.refused(Check.STATE, "word", 0, 1);
        sixty.due(0, "word", 1, 1);
    }

    // ---- promise 16

    private static void reference() {
        Edge document = new Edge(16, "IndexOutOfBoundsException if there is no such document");
        documents(document, 3);
        document.call("paragraph", 0, 0);
        document.call("paragraph", 2, 0);
        document.numbers(3, 0, "reference", 0, 0);
        Edge paragraph = new Edge(16, "document or paragraph");
        paragraphs(paragraph, 0);
        paragraph.noNumbers(1, "reference", 0, 0);
        for (int count = 1; count <= 12; count++) {
            paragraph.due(count - 1, "paragraph", 0, 0);
            paragraph.numbers(count, 1, "reference", 0, 0);
        }
        paragraph.times(36, "word", 0, 1);
        paragraph.refused(Check.NO_SUCH, "reference", 0, 12);
        paragraph.refused(Check.NO_SUCH, "reference", 0, -1);
        Edge sixty = new Edge(16, "IllegalStateException if there are 60 words");
        paragraphs(sixty, 1);
        sixty.times(3, "word", 0, 1);
        sixty.call("paragraph", 0, 0);
        for (int word = 3; word < 60; word++) {
            sixty.due(word, "reference", 0, 1);
        }
        sixty.refused(Check.STATE, "reference", 0, 0);
        sixty.refused(Check.STATE, "reference", 0, 1);
    }

    // ---- promise 17

    private static void version() {
        Edge calls = new Edge(17, "how many calls told something of it, behind document()");
        calls.due(0, "document", 20, 3);
        calls.due(0, "version", 0);
        calls.refused(Check.RANGE, "style", 0, 0, 5);
        calls.refused(Check.RANGE, "include", 0, 4, 1);
        calls.refused(Check.RANGE, "paragraph", 0, 4);
        calls.refused(Check.RANGE, "word", 0, 0);
        calls.refused(Check.STATE, "word", 0, 1);
        calls.refused(Check.NO_SUCH, "reference", 0, 0);
        calls.due(0, "version", 0);
        press(calls, 1);
        calls.call("run", 0, 0, 0);
        calls.call("anew", 0, 0);
        calls.due(1, "document", 20, 3);
        calls.call("style", 1, 0, 0);
        calls.due(0, "version", 0);
        calls.due(1, "version", 1);
        Edge document = new Edge(17, "IndexOutOfBoundsException if there is no such document");
        documents(document, 3);
        document.numbers(3, 0, "version", 0);
    }
}
