/** Promises 11 to 17: documents. */
public final class DocumentsTest {
    public static void main(String[] args) {
        promise11();
        promise12();
        promise13();
        promise14();
        promise15();
        promise16();
        promise17();
        Check.end("DocumentsTest");
    }

    private static void promise11() {
        PressBox x = new PressBox();
        Check.refused("measure 19", Check.RANGE, () -> x.document(19, 3));
        Check.refused("measure 201", Check.RANGE, () -> x.document(201, 3));
        Check.refused("height 2", Check.RANGE, () -> x.document(20, 2));
        Check.refused("height 13", Check.RANGE, () -> x.document(20, 13));
        Check.same("the least", x.document(20, 3), 0);
        Check.same("the most", x.document(200, 12), 1);
        for (int i = 2; i < 6; i++) {
            Check.same("document", x.document(50, 5), i);
        }
        Check.refused("a 7th, and measure 0", Check.RANGE, () -> x.document(0, 5));
        Check.refused("a 7th", Check.STATE, () -> x.document(50, 5));
        Check.same("the last one", x.style(5, 0, 1), 0);
        Check.refused("none behind it", Check.NO_SUCH, () -> x.style(6, 0, 1));
    }

    private static void promise12() {
        PressBox x = new PressBox();
        x.document(50, 5);
        x.document(50, 5);
        for (int i = 0; i < 4; i++) {
            Check.same("at first that of the same number", x.style(0, i, 4), i);
            Check.same("the one before", x.style(0, i, 0), 4);
        }
        Check.same("of the other document", x.style(1, 3, 2), 3);
        Check.refused("document -1", Check.NO_SUCH, () -> x.style(-1, 4, 5));
        Check.refused("document 2", Check.NO_SUCH, () -> x.style(2, 0, 0));
        Check.refused("style -1", Check.RANGE, () -> x.style(0, -1, 0));
        Check.refused("style 4", Check.RANGE, () -> x.style(0, 4, 0));
        Check.refused("font -1", Check.RANGE, () -> x.style(0, 0, -1));
        Check.refused("font 5", Check.RANGE, () -> x.style(0, 0, 5));
        Check.same("nothing changed by that", x.style(0, 0, 1), 0);
    }

    private static void promise13() {
        PressBox x = new PressBox();
        x.document(50, 5);
        x.document(50, 5);
        for (int file = 5; file < 10; file++) {
            Check.same("not at first", x.include(0, file, false), false);
            Check.same("not then", x.include(0, file, true), false);
            Check.same("it was", x.include(0, file, true), true);
        }
        Check.same("it was", x.include(0, 7, false), true);
        Check.same("it was not", x.include(0, 7, false), false);
        Check.same("the next one is", x.include(0, 8, true), true);
        Check.same("of the other document", x.include(1, 8, true), false);
        Check.refused("document -1", Check.NO_SUCH, () -> x.include(-1, 4, true));
        Check.refused("document 2", Check.NO_SUCH, () -> x.include(2, 5, true));
        Check.refused("file 4", Check.RANGE, () -> x.include(0, 4, true));
        Check.refused("file 10", Check.RANGE, () -> x.include(0, 10, true));
    }

    private static void promise14() {
        PressBox x = new PressBox();
        x.document(50, 5);
        x.document(50, 5);
        Check.refused("document 2", Check.NO_SUCH, () -> x.paragraph(2, 4));
        Check.refused("style -1", Check.RANGE, () -> x.paragraph(0, -1));
        Check.refused("style 4", Check.RANGE, () -> x.paragraph(0, 4));
        for (int i = 0; i < 12; i++) {
            Check.same("paragraph", x.paragraph(0, i % 4), i);
        }
        Check.refused("a 13th, and style 4", Check.RANGE, () -> x.paragraph(0, 4));
        Check.refused("a 13th", Check.STATE, () -> x.paragraph(0, 0));
        Check.same("of the other document", x.paragraph(1, 3), 0);
    }

    private static void promise15() {
        PressBox x = new PressBox();
        x.document(50, 5);
        x.document(50, 5);
        Check.refused("document 2", Check.NO_SUCH, () -> x.word(2, 0));
        Check.refused("no letter, no paragraph", Check.RANGE, () -> x.word(0, 0));
        Check.refused("no paragraph", Check.STATE, () -> x.word(0, 1));
        x.paragraph(0, 0);
        x.paragraph(1, 0);
        Check.refused("letter 26", Check.RANGE, () -> x.word(0, Check.codes(26)));
        Check.refused("letter 26 behind others", Check.RANGE, () -> x.word(0, Check.codes(0, 25, 26)));
        Check.refused("letter 254", Check.RANGE, () -> x.word(0, Check.codes(0, 254)));
        Check.refused("a gap", Check.RANGE, () -> x.word(0, 1L | 1L << 16));
        Check.refused("a gap at first", Check.RANGE, () -> x.word(0, 1L << 8));
        Check.refused("something at the very end", Check.RANGE, () -> x.word(0, 1L | 1L << 56));
        Check.refused("below 0", Check.RANGE, () -> x.word(0, -1L));
        Check.refused("the least", Check.RANGE, () -> x.word(0, Long.MIN_VALUE));
        Check.same("one letter", x.word(0, Check.codes(25)), 0);
        Check.same("eight", x.word(0, Check.codes(0, 1, 2, 3, 22, 23, 24, 25)), 1);
        x.paragraph(0, 1);
        Check.same("through the whole document", x.word(0, 1), 2);
        Check.same("of the other document", x.word(1, 1), 0);
        for (int i = 3; i < 60; i++) {
            Check.same("word", x.word(0, 1), i);
        }
        Check.refused("a 61st, and no letter", Check.RANGE, () -> x.word(0, 0));
        Check.refused("a 61st", Check.STATE, () -> x.word(0, 1));
    }

    private static void promise16() {
        PressBox x = new PressBox();
        x.document(50, 5);
        Check.refused("document 1", Check.NO_SUCH, () -> x.reference(1, 0));
        Check.refused("no paragraph", Check.NO_SUCH, () -> x.reference(0, 0));
        x.paragraph(0, 0);
        Check.refused("paragraph -1", Check.NO_SUCH, () -> x.reference(0, -1));
        Check.refused("paragraph 1", Check.NO_SUCH, () -> x.reference(0, 1));
        Check.same("its own paragraph", x.reference(0, 0), 0);
        x.word(0, 1);
        x.paragraph(0, 0);
        Check.same("the one before", x.reference(0, 0), 2);
        for (int i = 3; i < 60; i++) {
            Check.same("reference", x.reference(0, i % 2), i);
        }
        Check.refused("a 61st, paragraph 2", Check.NO_SUCH, () -> x.reference(0, 2));
        Check.refused("a 61st", Check.STATE, () -> x.reference(0, 0));
    }

    private static void promise17() {
        PressBox x = new PressBox();
        Check.refused("document 0", Check.NO_SUCH, () -> x.version(0));
        x.document(50, 5);
        x.document(50, 5);
        Check.refused("document -1", Check.NO_SUCH, () -> x.version(-1));
        Check.refused("document 2", Check.NO_SUCH, () -> x.version(2));
        Check.same("at first", x.version(0), 0);
        x.style(0, 0, 3);
        Check.same("style", x.version(0), 1);
        x.style(0, 0, 3);
        Check.same("the same style", x.version(0), 2);
        x.include(0, 5, true);
        Check.same("include", x.version(0), 3);
        x.include(0, 5, true);
        Check.same("the same", x.version(0), 4);
        x.paragraph(0, 0);
        Check.same("paragraph", x.version(0), 5);
        x.word(0, 1);
        Check.same("word", x.version(0), 6);
        x.reference(0, 0);
        Check.same("reference", x.version(0), 7);
        Check.refused("style 4", Check.RANGE, () -> x.style(0, 4, 0));
        Check.refused("file 4", Check.RANGE, () -> x.include(0, 4, true));
        Check.refused("style -1", Check.RANGE, () -> x.paragraph(0, -1));
        Check.refused("no letter", Check.RANGE, () -> x.word(0, 0));
        Check.refused("paragraph 1", Check.NO_SUCH, () -> x.reference(0, 1));
        Check.same("refused calls tell nothing", x.version(0), 7);
        Check.same("of the other document", x.version(1), 0);
    }
}
