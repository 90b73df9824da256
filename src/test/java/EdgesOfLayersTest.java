/** The boundaries of promises 1 to 10, and of what the document says of layers and images, each by itself. */
public final class EdgesOfLayersTest {
    private static final int ALL = Edge.ALL;
    private static final int NONE = PressBox.NONE;

    public static void main(String[] args) {
        calls();
        constants();
        newObject();
        layersOfTerms();
        filesOfTerms();
        alikeOfTerms();
        rowsOfTerms();
        imagesOfTerms();
        goneOfTerms();
        layer();
        fontRanges();
        fontRefusals();
        packRanges();
        packRefusals();
        hide();
        seal();
        imageRows();
        imageRanges();
        imageStates();
        imageLimit();
        drop();
        ofLayer();
        file();
        Edge.document().coversTerms("An object is used", "## The public face");
        Edge.document().coversTerms("The constants: ", "Ahead of the calls `layer`");
        Edge.document().coversTerms("Layers are numbered from 0", "### Documents");
        Edge.document().coversPromises(1, 10);
        Check.end("EdgesOfLayersTest");
    }

    // ---- what several edges begin with

    /** Layers of which no two are alike: each has the package 5, with space and version by its number. */
    private static void sealedLayers(Edge e, int count) {
        for (int layer = 0; layer < count; layer++) {
            e.due(layer, "layer");
            e.call("pack", layer, 5, layer / 10, layer % 10);
            e.due(NONE, "seal", layer);
        }
    }

    /** Layer 0 is sealed and in no image, 1 is sealed and in image 0, 2 is gone with image 1, and 3 is open. */
    private static void oneOfEach(Edge e) {
        sealedLayers(e, 3);
        e.due(3, "layer");
        e.due(0, "image", Check.codes(1));
        e.due(1, "image", Check.codes(2));
        e.due(1, "drop", 1);
    }

    /** The files 0 to 9 of an image: their widths and spaces with what 0, their covers and versions with 1. */
    private static void files(Edge e, long image, int what, long... want) {
        e.row("file", 1, new long[] {image, 0, what}, want);
    }

    /** An image of one layer alone, which is sealed for it. */
    private static long imageOf(Edge e, long layer) {
        e.call("seal", layer);
        return e.call("image", layer + 1);
    }

    // ---- ahead of the promises

    private static void calls() {
        Edge e = new Edge(Edge.TERMS, "at most 512 calls");
        e.due(0, "document", 20, 3);
        e.times(510, "style", 0, 0, 0);
        e.due(510, "version", 0);
        e.same("calls", e.calls(), 512);
    }

    private static void constants() {
        Edge none = new Edge(Edge.TERMS, "`NONE = -1`");
        none.same("NONE", NONE, -1);
        Edge ends = new Edge(Edge.TERMS, "`RAN = 0, KEPT = 1, STOPPED = 2`");
        ends.same("RAN", PressBox.RAN, 0);
        ends.same("KEPT", PressBox.KEPT, 1);
        ends.same("STOPPED", PressBox.STOPPED, 2);
        Edge states = new Edge(Edge.TERMS, "`OPEN = 0, SEALED = 1, GONE = 2`");
        states.same("OPEN", PressBox.OPEN, 0);
        states.same("SEALED", PressBox.SEALED, 1);
        states.same("GONE", PressBox.GONE, 2);
    }

    // ---- terms

    private static void layersOfTerms() {
        Edge count = new Edge(Edge.TERMS, "Layers are numbered from 0, at most 24");
        for (int layer = 0; layer < 24; layer++) {
            count.due(layer, "layer");
        }
        count.numbers(24, 0, "ofLayer", 0, 0);
        count.refused(Check.STATE, "layer");
        count.due(PressBox.OPEN, "ofLayer", 23, 0);
        Edge states = new Edge(Edge.TERMS, "A layer is open at first, then sealed, and may be gone");
        states.due(0, "layer");
        states.due(PressBox.OPEN, "ofLayer", 0, 0);
        states.due(NONE, "seal", 0);
        states.due(PressBox.SEALED, "ofLayer", 0, 0);
        states.due(0, "image", 1);
        states.due(PressBox.SEALED, "ofLayer", 0, 0);
        states.due(1, "drop", 0);
        states.due(PressBox.GONE, "ofLayer", 0, 0);
    }

    private static void filesOfTerms() {
        Edge each = new Edge(Edge.TERMS, "for each of the files 0 to 9 nothing, the file, or that it hides it");
        each.call("layer");
        each.call("layer");
        each.call("layer");
        for (int file = 0; file < 10; file++) {
            each.call(file < 5 ? "font" : "pack", 1, file, 3, file < 5 ? 7 : 9);
            each.call("hide", 2, file);
        }
        files(each, imageOf(each, 0), 0, -1, -1, -1, -1, -1, -1, -1, -1, -1, -1);
        files(each, imageOf(each, 1), 0, 3, 3, 3, 3, 3, 3, 3, 3, 3, 3);
        files(each, imageOf(each, 2), 1, -1, -1, -1, -1, -1, -1, -1, -1, -1, -1);
        files(each, each.call("image", Check.codes(1, 0)), 1, 7, 7, 7, 7, 7, 9, 9, 9, 9, 9);
        files(each, each.call("image", Check.codes(1, 2)), 1, -1, -1, -1, -1, -1, -1, -1, -1, -1, -1);
        Edge fonts = new Edge(Edge.TERMS, "The files 0 to 4 are fonts");
        fonts.call("layer");
        fonts.refused(Check.RANGE, "pack", 0, 4, 0, 0);
        fonts.call("font", 0, 4, 2, 1);
        fonts.call("font", 0, 0, 2, 1);
        files(fonts, imageOf(fonts, 0), 0, 2, -1, -1, -1, 2, -1, -1, -1, -1, -1);
        Edge packs = new Edge(Edge.TERMS, "5 to 9 are packages");
        packs.call("layer");
        packs.refused(Check.RANGE, "font", 0, 5, 1, 1);
        packs.call("pack", 0, 5, 2, 1);
        packs.call("pack", 0, 9, 2, 1);
        files(packs, imageOf(packs, 0), 1, -1, -1, -1, -1, -1, 1, -1, -1, -1, 1);
        numbersOfFiles();
    }

    private static void numbersOfFiles() {
        Edge width = new Edge(Edge.TERMS, "with a width, 1 to 20");
        width.call("layer");
        width.call("font", 0, 0, 1, 1);
        width.call("font", 0, 1, 20, 2);
        width.refused(Check.RANGE, "font", 0, 0, 0, 1);
        width.refused(Check.RANGE, "font", 0, 0, 21, 1);
        files(width, imageOf(width, 0), 0, 1, 20);
        Edge letters = new Edge(Edge.TERMS, "the set of the letters 0 to 25 that they cover");
        letters.call("layer");
        letters.call("font", 0, 0, 1, 1);
        letters.call("font", 0, 1, 2, 1 << 25);
        letters.refused(Check.RANGE, "font", 0, 2, 3, 1 << 26);
        imageOf(letters, 0);
        letters.call("document", 20, 3);
        letters.call("quota", 0, 100);
        letters.call("paragraph", 0, 0);
        letters.call("word", 0, Check.codes(0));
        letters.call("paragraph", 0, 0);
        letters.call("word", 0, Check.codes(25));
        letters.call("paragraph", 0, 0);
        letters.call("word", 0, Check.codes(24));
        letters.call("run", 0, 0, 0);
        letters.row("line", 1, new long[] {0, 0, 3}, 1, 2, 10);
        Edge space = new Edge(Edge.TERMS, "with a space, 0 to 3");
        space.call("layer");
        space.call("pack", 0, 5, 0, 1);
        space.call("pack", 0, 9, 3, 1);
        space.refused(Check.RANGE, "pack", 0, 5, -1, 1);
        space.refused(Check.RANGE, "pack", 0, 5, 4, 1);
        files(space, imageOf(space, 0), 0, -1, -1, -1, -1, -1, 0, -1, -1, -1, 3);
        Edge version = new Edge(Edge.TERMS, "and a version, 0 to 9");
        version.call("layer");
        version.call("pack", 0, 5, 1, 0);
        version.call("pack", 0, 9, 1, 9);
        version.refused(Check.RANGE, "pack", 0, 5, 1, -1);
        version.refused(Check.RANGE, "pack", 0, 5, 1, 10);
        files(version, imageOf(version, 0), 1, -1, -1, -1, -1, -1, 0, -1, -1, -1, 9);
    }

    private static void alikeOfTerms() {
        Edge e = new Edge(Edge.TERMS, "Two layers are alike, if they have the same for all files");
        e.times(2, "layer");
        e.due(NONE, "seal", 0);
        e.due(0, "seal", 1);
        for (int file = 0; file < 10; file++) {
            unlikeInOne(file);
        }
    }

    /** Layers with all files alike but for one: it is there, not there, hidden, or another one; the last has all. */
    private static void unlikeInOne(int file) {
        Edge e = new Edge(Edge.TERMS, "they have the same for all files");
        for (int layer = 0; layer < 6; layer++) {
            e.call("layer");
            for (int f = 0; f < 10; f++) {
                if (f != file) {
                    put(e, layer, f, 1, 5);
                }
            }
        }
        put(e, 0, file, 1, 5);
        e.call("hide", 2, file);
        put(e, 3, file, 2, 5);
        put(e, 4, file, 1, 6);
        put(e, 5, file, 1, 5);
        for (int layer = 0; layer < 5; layer++) {
            e.due(NONE, "seal", layer);
        }
        e.due(0, "seal", 5);
    }

    private static void put(Edge e, int layer, int file, int size, int detail) {
        e.call(file < 5 ? "font" : "pack", layer, file, size, detail);
    }

    private static void rowsOfTerms() {
        Edge six = new Edge(Edge.TERMS, "a row of sealed layers, from the lowest one on, at most 6");
        sealedLayers(six, 7);
        six.due(0, "image", Check.codes(3));
        six.due(1, "image", Check.codes(0, 1, 2, 3, 4, 5));
        six.due(5, "file", 1, 5, 1);
        six.refused(Check.RANGE, "image", Check.codes(0, 1, 2, 3, 4, 5, 6));
        Edge twice = new Edge(Edge.TERMS, "perhaps one of them twice");
        sealedLayers(twice, 2);
        twice.due(0, "image", Check.codes(0, 1, 0));
        twice.due(0, "file", 0, 5, 1);
        twice.due(1, "image", Check.codes(1, 1));
        twice.due(2, "image", Check.codes(1));
        twice.due(3, "image", Check.codes(1, 1, 1, 1, 1, 1));
        Edge upper = new Edge(Edge.TERMS, "the uppermost of its layers that has the file, or hides it");
        upper.times(5, "layer");
        upper.call("font", 0, 2, 1, 1);
        upper.call("font", 1, 2, 2, 2);
        upper.call("hide", 2, 2);
        upper.call("font", 3, 1, 4, 4);
        for (int layer = 0; layer < 5; layer++) {
            upper.due(NONE, "seal", layer);
        }
        files(upper, upper.call("image", Check.codes(0, 1)), 0, -1, -1, 2);
        files(upper, upper.call("image", Check.codes(1, 0)), 0, -1, -1, 1);
        files(upper, upper.call("image", Check.codes(0, 1, 2)), 0, -1, -1, -1);
        files(upper, upper.call("image", Check.codes(2, 0, 3)), 0, -1, 4, 1);
        files(upper, upper.call("image", Check.codes(0, 4, 4, 4, 4, 4)), 0, -1, -1, 1);
        files(upper, upper.call("image", Check.codes(0, 2, 4, 3, 4, 4)), 0, -1, 4, -1);
        Edge nothing = new Edge(Edge.TERMS, "nothing without such a layer");
        nothing.call("layer");
        files(nothing, imageOf(nothing, 0), 0, -1, -1, -1, -1, -1, -1, -1, -1, -1, -1);
        files(nothing, 0, 1, -1, -1, -1, -1, -1, -1, -1, -1, -1, -1);
    }

    private static void imagesOfTerms() {
        Edge count = new Edge(Edge.TERMS, "Images are numbered from 0, at most 12");
        sealedLayers(count, 13);
        for (int image = 0; image < 12; image++) {
            count.due(image, "image", Check.codes(image));
        }
        count.refused(Check.STATE, "image", Check.codes(12));
        count.numbers(12, 0, "file", 0, 0, 0);
        Edge held = new Edge(Edge.TERMS, "one is held as often as it was made, less as often as it was dropped");
        sealedLayers(held, 1);
        for (int times = 0; times < 3; times++) {
            held.due(0, "image", 1);
        }
        held.due(0, "drop", 0);
        held.due(0, "image", 1);
        held.due(0, "drop", 0);
        held.due(0, "drop", 0);
        held.due(1, "drop", 0);
        held.refused(Check.STATE, "drop", 0);
        Edge alike = new Edge(Edge.TERMS,
            "alike to those of an image that is held, one by one, is to hold that one more");
        sealedLayers(alike, 2);
        alike.due(2, "layer");
        alike.call("pack", 2, 5, 0, 0);
        alike.due(0, "seal", 2);
        alike.due(0, "image", Check.codes(0, 1));
        alike.due(0, "image", Check.codes(2, 1));
        alike.due(1, "image", Check.codes(1, 2));
        alike.due(2, "image", Check.codes(0));
        alike.due(3, "image", Check.codes(0, 1, 1));
        alike.due(3, "image", Check.codes(2, 1, 1));
        alike.due(0, "drop", 3);
        alike.due(0, "drop", 3);
        alike.due(4, "image", Check.codes(2, 1, 1));
        alike.due(0, "drop", 0);
        alike.due(0, "image", Check.codes(2, 1));
    }

    private static void goneOfTerms() {
        Edge gone = new Edge(Edge.TERMS, "An image that is held no more is gone");
        sealedLayers(gone, 1);
        gone.due(0, "image", 1);
        gone.due(0, "image", 1);
        gone.due(0, "drop", 0);
        gone.due(0, "file", 0, 5, 0);
        gone.due(1, "drop", 0);
        gone.refused(Check.STATE, "file", 0, 5, 0);
        gone.refused(Check.STATE, "drop", 0);
        Edge with = new Edge(Edge.TERMS,
            "sealed layers that are in no image that is held are gone with it, if they were in this one");
        sealedLayers(with, 4);
        with.due(4, "layer");
        with.due(0, "image", Check.codes(0, 1));
        with.due(1, "image", Check.codes(1, 2));
        with.due(1, "drop", 0);
        with.row("ofLayer", 0, new long[] {0, 0}, 2, 1, 1, 1, 0);
        with.due(2, "drop", 1);
        with.row("ofLayer", 0, new long[] {0, 0}, 2, 2, 2, 1, 0);
    }

    // ---- promise 1

    private static void newObject() {
        Edge none = new Edge(1, "No layers, images, documents and jobs");
        none.noNumbers(0, "font", 0, 0, 1, 0);
        none.noNumbers(0, "pack", 0, 5, 0, 0);
        none.noNumbers(0, "hide", 0, 0);
        none.noNumbers(0, "seal", 0);
        none.refused(Check.RANGE, "image", 1);
        none.noNumbers(0, "drop", 0);
        none.noNumbers(0, "ofLayer", 0, 0);
        none.noNumbers(0, "file", 0, 0, 0);
        none.noNumbers(0, "style", 0, 0, 0);
        none.noNumbers(0, "include", 0, 5, 1);
        none.noNumbers(0, "paragraph", 0, 0);
        none.noNumbers(0, "word", 0, 1);
        none.noNumbers(0, "reference", 0, 0);
        none.noNumbers(0, "version", 0);
        none.refused(Check.NO_SUCH, "run", 0, 0, 0);
        none.refused(Check.NO_SUCH, "write", 0, 0, 5);
        none.noNumbers(0, "job", 0, 0);
        none.noNumbers(0, "line", 0, 0, 0);
        none.noNumbers(0, "shows", 0, 0);
        none.noNumbers(0, "anew", 0, 0);
        none.noNumbers(0, "penalties", 0);
        none.noNumbers(0, "differences", 0, 0);
        none.due(0, "layer");
        none.due(NONE, "seal", 0);
        none.due(0, "image", 1);
        none.due(0, "document", 20, 3);
        none.due(0, "version", 0);
        none.due(0, "run", 0, 0, 0);
        Edge nobody = new Edge(1, "nobody has anything left");
        nobody.row("left", 0, new long[] {0}, 0, 0, 0, 0);
    }

    // ---- promise 2

    private static void layer() {
        Edge e = new Edge(2, "IllegalStateException if there are 24");
        for (int layer = 0; layer < 24; layer++) {
            e.due(layer, "layer");
        }
        e.refused(Check.STATE, "layer");
        e.due(NONE, "seal", 23);
        e.refused(Check.STATE, "layer");
        e.due(0, "image", Check.codes(23));
        e.due(1, "drop", 0);
        e.refused(Check.STATE, "layer");
        e.due(PressBox.GONE, "ofLayer", 23, 0);
    }

    // ---- promise 3

    private static void fontRanges() {
        Edge place = new Edge(3, "in place of what it has");
        place.call("layer");
        place.call("font", 0, 0, 1, 1);
        place.call("font", 0, 0, 2, 3);
        place.call("hide", 0, 4);
        place.call("font", 0, 4, 5, 6);
        files(place, imageOf(place, 0), 0, 2, -1, -1, -1, 5);
        files(place, 0, 1, 3, -1, -1, -1, 6);
        Edge file = new Edge(3, "@param file 0 to 4");
        file.call("layer");
        file.range(0, 4, 1, "font", 0, 0, 7, 9);
        files(file, imageOf(file, 0), 0, 7, -1, -1, -1, 7, -1, -1, -1, -1, -1);
        Edge width = new Edge(3, "@param width 1 to 20");
        width.call("layer");
        width.call("font", 0, 1, 1, 9);
        width.range(1, 20, 2, "font", 0, 0, 0, 9);
        files(width, imageOf(width, 0), 0, 20, 1);
        Edge cover = new Edge(3, "@param cover bit l for the letter l, 0 to 67108863");
        cover.call("layer");
        cover.call("font", 0, 1, 1, 0);
        cover.range(0, ALL, 3, "font", 0, 0, 1, 0);
        files(cover, imageOf(cover, 0), 1, ALL, 0);
    }

    private static void fontRefusals() {
        Edge layer = new Edge(3, "IndexOutOfBoundsException if there is no such layer");
        layer.times(3, "layer");
        layer.numbers(3, 0, "font", 0, 0, 1, 0);
        layer.refused(Check.NO_SUCH, "font", 3, 5, 21, -1);
        layer.refused(Check.NO_SUCH, "font", -1, -1, 0, ALL + 1);
        Edge range = new Edge(3, "IllegalArgumentException if another argument is out of its range");
        oneOfEach(range);
        for (int number = 0; number < 4; number++) {
            range.refused(Check.RANGE, "font", number, 5, 1, 0);
            range.refused(Check.RANGE, "font", number, 0, 0, 0);
            range.refused(Check.RANGE, "font", number, 0, 1, -1);
        }
        Edge open = new Edge(3, "IllegalStateException if the layer is not open");
        oneOfEach(open);
        for (int number = 0; number < 3; number++) {
            open.refused(Check.STATE, "font", number, 0, 1, 0);
        }
        open.call("font", 3, 0, 1, 0);
    }

    // ---- promise 4

    private static void packRanges() {
        Edge place = new Edge(4, "in place of what it has");
        place.call("layer");
        place.call("pack", 0, 5, 1, 1);
        place.call("pack", 0, 5, 2, 3);
        place.call("hide", 0, 9);
        place.call("pack", 0, 9, 3, 6);
        files(place, imageOf(place, 0), 0, -1, -1, -1, -1, -1, 2, -1, -1, -1, 3);
        files(place, 0, 1, -1, -1, -1, -1, -1, 3, -1, -1, -1, 6);
        Edge file = new Edge(4, "@param file 5 to 9");
        file.call("layer");
        file.range(5, 9, 1, "pack", 0, 0, 2, 8);
        files(file, imageOf(file, 0), 1, -1, -1, -1, -1, -1, 8, -1, -1, -1, 8);
        Edge space = new Edge(4, "@param space 0 to 3");
        space.call("layer");
        space.call("pack", 0, 6, 0, 1);
        space.range(0, 3, 2, "pack", 0, 5, 0, 1);
        files(space, imageOf(space, 0), 0, -1, -1, -1, -1, -1, 3, 0);
        Edge version = new Edge(4, "@param version 0 to 9");
        version.call("layer");
        version.call("pack", 0, 6, 1, 0);
        version.range(0, 9, 3, "pack", 0, 5, 1, 0);
        files(version, imageOf(version, 0), 1, -1, -1, -1, -1, -1, 9, 0);
    }

    private static void packRefusals() {
        Edge layer = new Edge(4, "IndexOutOfBoundsException if there is no such layer");
        layer.times(3, "layer");
        layer.numbers(3, 0, "pack", 0, 5, 1, 0);
        layer.refused(Check.NO_SUCH, "pack", 3, 4, 4, 10);
        layer.refused(Check.NO_SUCH, "pack", -1, 10, -1, -1);
        Edge range = new Edge(4, "IllegalArgumentException if another argument is out of its range");
        oneOfEach(range);
        for (int number = 0; number < 4; number++) {
            range.refused(Check.RANGE, "pack", number, 4, 0, 0);
            range.refused(Check.RANGE, "pack", number, 5, 4, 0);
            range.refused(Check.RANGE, "pack", number, 5, 0, 10);
        }
        Edge open = new Edge(4, "IllegalStateException if the layer is not open");
        oneOfEach(open);
        for (int number = 0; number < 3; number++) {
            open.refused(Check.STATE, "pack", number, 6, 1, 1);
        }
        open.call("pack", 3, 6, 1, 1);
    }

    // ---- promise 5

    private static void hide() {
        Edge place = new Edge(5, "in place of what it has");
        place.call("layer");
        place.call("layer");
        place.call("font", 0, 0, 1, 1);
        place.call("hide", 0, 0);
        place.call("hide", 0, 0);
        place.call("hide", 1, 0);
        place.due(NONE, "seal", 0);
        place.due(0, "seal", 1);
        Edge file = new Edge(5, "@param file 0 to 9");
        file.times(2, "layer");
        put(file, 0, 0, 1, 1);
        put(file, 0, 1, 1, 1);
        put(file, 0, 8, 1, 1);
        put(file, 0, 9, 1, 1);
        file.range(0, 9, 1, "hide", 1, 0);
        file.call("seal", 0);
        file.call("seal", 1);
        files(file, file.call("image", Check.codes(0, 1)), 0, -1, 1, -1, -1, -1, -1, -1, -1, 1, -1);
        Edge layer = new Edge(5, "IndexOutOfBoundsException if there is no such layer");
        layer.times(3, "layer");
        layer.numbers(3, 0, "hide", 0, 0);
        layer.refused(Check.NO_SUCH, "hide", 3, 10);
        layer.refused(Check.NO_SUCH, "hide", -1, -1);
        Edge range = new Edge(5, "IllegalArgumentException if file is out of its range");
        oneOfEach(range);
        for (int number = 0; number < 4; number++) {
            range.refused(Check.RANGE, "hide", number, -1);
            range.refused(Check.RANGE, "hide", number, 10);
        }
        Edge open = new Edge(5, "IllegalStateException if the layer is not open");
        oneOfEach(open);
        for (int number = 0; number < 3; number++) {
            open.refused(Check.STATE, "hide", number, 5);
        }
        open.call("hide", 3, 5);
    }

    // ---- promise 6

    private static void seal() {
        Edge lowest = new Edge(6, "the lowest other layer that is sealed, not gone, and alike");
        lowest.times(6, "layer");
        lowest.call("hide", 5, 0);
        lowest.due(NONE, "seal", 4);
        lowest.due(4, "seal", 2);
        lowest.due(2, "seal", 3);
        lowest.due(NONE, "seal", 5);
        lowest.due(2, "seal", 0);
        lowest.due(0, "image", Check.codes(0));
        lowest.due(1, "drop", 0);
        lowest.due(2, "seal", 1);
        Edge without = new Edge(6, "NONE without one");
        without.times(4, "layer");
        without.call("hide", 0, 0);
        without.due(NONE, "seal", 0);
        without.due(NONE, "seal", 1);
        without.due(0, "image", Check.codes(1));
        without.due(1, "drop", 0);
        without.due(NONE, "seal", 2);
        Edge full = new Edge(6, "@return the lowest other layer");
        full.times(24, "layer");
        full.due(NONE, "seal", 23);
        for (int layer = 0; layer < 23; layer++) {
            full.due(layer == 0 ? 23 : 0, "seal", layer);
        }
        Edge layer = new Edge(6, "IndexOutOfBoundsException if there is no such layer");
        layer.times(3, "layer");
        layer.numbers(3, 0, "seal", 0);
        Edge open = new Edge(6, "IllegalStateException if it is not open");
        oneOfEach(open);
        for (int number = 0; number < 3; number++) {
            open.refused(Check.STATE, "seal", number);
        }
        open.due(NONE, "seal", 3);
        open.refused(Check.STATE, "seal", 3);
    }

    // ---- promise 7

    private static void imageRows() {
        Edge bits = new Edge(7, "each in 8 bits as 1 more than its number");
        for (int layer = 0; layer < 24; layer++) {
            bits.due(layer, "layer");
        }
        bits.call("pack", 0, 5, 0, 4);
        bits.call("pack", 23, 5, 0, 8);
        bits.due(NONE, "seal", 0);
        bits.due(NONE, "seal", 23);
        bits.due(0, "image", 1);
        bits.due(4, "file", 0, 5, 1);
        bits.due(1, "image", 24);
        bits.due(8, "file", 1, 5, 1);
        bits.due(2, "image", 24L << 40 | 1L << 32 | 1L << 24 | 1L << 16 | 1L << 8 | 1);
        bits.due(8, "file", 2, 5, 1);
        bits.refused(Check.RANGE, "image", 25);
        bits.refused(Check.RANGE, "image", 127);
        bits.refused(Check.RANGE, "image", 128);
        bits.refused(Check.RANGE, "image", 255);
        bits.refused(Check.RANGE, "image", 25L << 40 | 1L << 32 | 1L << 24 | 1L << 16 | 1L << 8 | 1);
        Edge behind = new Edge(7, "behind the last one all is 0");
        sealedLayers(behind, 2);
        behind.refused(Check.RANGE, "image", 1L << 8);
        behind.refused(Check.RANGE, "image", 1L | 1L << 16);
        behind.refused(Check.RANGE, "image", Check.codes(0, 1) | 1L << 40);
        behind.refused(Check.RANGE, "image", 1L | 1L << 48);
        behind.refused(Check.RANGE, "image", 1L | 1L << 56);
        behind.refused(Check.RANGE, "image", 1L | Long.MIN_VALUE);
        behind.refused(Check.RANGE, "image", Check.codes(0, 1, 0, 1, 0, 1) | 1L << 56);
        behind.due(0, "image", Check.codes(0, 1, 0, 1, 0, 1));
    }

    private static void imageRanges() {
        Edge none = new Edge(7, "IllegalArgumentException if there is none");
        sealedLayers(none, 1);
        none.refused(Check.RANGE, "image", 0);
        none.refused(Check.RANGE, "image", Long.MIN_VALUE);
        none.due(0, "image", 1);
        Edge six = new Edge(7, "or more than 6");
        sealedLayers(six, 3);
        six.due(0, "image", Check.codes(2, 1, 0, 2, 1, 0));
        six.refused(Check.RANGE, "image", Check.codes(2, 1, 0, 2, 1, 0, 0));
        six.refused(Check.RANGE, "image", Check.codes(2, 1, 0, 2, 1, 0, 0, 0));
        six.due(3, "layer");
        six.refused(Check.RANGE, "image", Check.codes(3, 3, 3, 3, 3, 3, 3));
        Edge layer = new Edge(7, "or something is no layer that there is");
        oneOfEach(layer);
        layer.due(2, "image", Check.codes(0));
        layer.refused(Check.RANGE, "image", Check.codes(4));
        layer.refused(Check.RANGE, "image", Check.codes(4, 0));
        layer.refused(Check.RANGE, "image", Check.codes(0, 0, 0, 0, 0, 4));
        layer.refused(Check.RANGE, "image", Check.codes(0, 254));
        layer.refused(Check.RANGE, "image", Check.codes(3, 4));
        layer.refused(Check.RANGE, "image", Check.codes(2, 4));
        layer.refused(Check.RANGE, "image", -1);
        layer.refused(Check.RANGE, "image", Long.MAX_VALUE);
    }

    private static void imageStates() {
        Edge open = new Edge(7, "if one is not sealed");
        oneOfEach(open);
        open.refused(Check.STATE, "image", Check.codes(3));
        open.refused(Check.STATE, "image", Check.codes(3, 1));
        open.refused(Check.STATE, "image", Check.codes(1, 3));
        open.refused(Check.STATE, "image", Check.codes(1, 1, 1, 1, 1, 3));
        open.due(0, "image", Check.codes(1));
        open.due(NONE, "seal", 3);
        open.due(2, "image", Check.codes(1, 3));
        Edge gone = new Edge(7, "or is gone");
        oneOfEach(gone);
        gone.refused(Check.STATE, "image", Check.codes(2));
        gone.refused(Check.STATE, "image", Check.codes(2, 0));
        gone.refused(Check.STATE, "image", Check.codes(0, 2));
        gone.refused(Check.STATE, "image", Check.codes(0, 0, 0, 0, 0, 2));
        gone.due(2, "image", Check.codes(0));
        Edge alike = new Edge(7, "is gone, or there are 12");
        sealedLayers(alike, 1);
        alike.due(1, "layer");
        alike.call("pack", 1, 5, 0, 0);
        alike.due(0, "seal", 1);
        alike.due(0, "image", Check.codes(0));
        alike.due(1, "drop", 0);
        alike.due(1, "image", Check.codes(1));
        alike.refused(Check.STATE, "image", Check.codes(0));
    }

    private static void imageLimit() {
        Edge e = new Edge(7, "or there are 12 images, and none of those that are held is alike");
        sealedLayers(e, 14);
        e.due(14, "layer");
        e.call("pack", 14, 5, 0, 3);
        e.due(3, "seal", 14);
        for (int image = 0; image < 12; image++) {
            e.due(image, "image", Check.codes(image, 12));
        }
        e.refused(Check.STATE, "image", Check.codes(13));
        e.refused(Check.STATE, "image", Check.codes(12));
        e.refused(Check.STATE, "image", Check.codes(12, 0));
        e.due(0, "image", Check.codes(0, 12));
        e.due(11, "image", Check.codes(11, 12));
        e.due(3, "image", Check.codes(14, 12));
        e.due(0, "drop", 3);
        e.due(3, "image", Check.codes(14, 12));
        e.due(0, "drop", 3);
        e.due(1, "drop", 3);
        e.refused(Check.STATE, "image", Check.codes(14, 12));
        e.refused(Check.STATE, "image", Check.codes(13));
        e.due(0, "image", Check.codes(0, 12));
    }

    // ---- promise 8

    private static void drop() {
        Edge gone = new Edge(8, "how many layers are gone by that");
        sealedLayers(gone, 9);
        gone.due(0, "image", Check.codes(0, 1, 2, 3, 4, 5));
        gone.due(1, "image", Check.codes(6, 6, 6, 6, 6, 6));
        gone.due(2, "image", Check.codes(7, 8, 7));
        gone.due(3, "image", Check.codes(8, 7));
        gone.due(3, "image", Check.codes(8, 7));
        gone.due(6, "drop", 0);
        gone.due(1, "drop", 1);
        gone.due(0, "drop", 2);
        gone.due(0, "drop", 3);
        gone.due(2, "drop", 3);
        Edge image = new Edge(8, "IndexOutOfBoundsException if there is no such image");
        sealedLayers(image, 3);
        for (int number = 0; number < 3; number++) {
            image.due(number, "image", Check.codes(number));
        }
        image.numbers(3, 0, "drop", 0);
        Edge again = new Edge(8, "IllegalStateException if it is gone");
        sealedLayers(again, 1);
        again.due(0, "image", 1);
        again.due(0, "image", 1);
        again.due(0, "drop", 0);
        again.due(1, "drop", 0);
        again.refused(Check.STATE, "drop", 0);
        again.refused(Check.STATE, "drop", 0);
    }

    // ---- promise 9

    private static void ofLayer() {
        Edge state = new Edge(9, "0 how it is, OPEN to GONE");
        oneOfEach(state);
        state.row("ofLayer", 0, new long[] {0, 0}, PressBox.SEALED, PressBox.SEALED, PressBox.GONE, PressBox.OPEN);
        Edge images = new Edge(9, "1 in how many images it is that are held");
        sealedLayers(images, 13);
        images.due(0, "ofLayer", 12, 1);
        images.due(0, "image", Check.codes(12, 12));
        images.due(1, "ofLayer", 12, 1);
        images.due(0, "image", Check.codes(12, 12));
        images.due(1, "ofLayer", 12, 1);
        for (int image = 1; image < 12; image++) {
            images.due(image, "image", Check.codes(image, 12));
        }
        images.due(12, "ofLayer", 12, 1);
        images.due(0, "drop", 0);
        images.due(12, "ofLayer", 12, 1);
        images.due(0, "drop", 0);
        images.due(11, "ofLayer", 12, 1);
        images.due(1, "ofLayer", 1, 1);
        images.due(1, "drop", 1);
        images.due(0, "ofLayer", 1, 1);
        images.due(10, "ofLayer", 12, 1);
        Edge layer = new Edge(9, "IndexOutOfBoundsException if there is no such layer");
        oneOfEach(layer);
        layer.numbers(4, 0, "ofLayer", 0, 0);
        layer.refused(Check.NO_SUCH, "ofLayer", 4, 2);
        layer.refused(Check.NO_SUCH, "ofLayer", -1, -1);
        Edge what = new Edge(9, "IllegalArgumentException if what is out of its range");
        oneOfEach(what);
        for (int number = 0; number < 4; number++) {
            what.range(0, 1, 1, "ofLayer", number, 0);
        }
    }

    // ---- promise 10

    private static void file() {
        Edge file = new Edge(10, "@param file 0 to 9");
        file.call("layer");
        for (int f = 0; f < 10; f++) {
            put(file, 0, f, f % 3 + 1, f);
        }
        files(file, imageOf(file, 0), 0, 1, 2, 3, 1, 2, 3, 1, 2, 3, 1);
        file.range(0, 9, 1, "file", 0, 0, 0);
        Edge what = new Edge(10, "what 0 its width or space, 1 its cover or version");
        what.call("layer");
        put(what, 0, 4, 20, ALL);
        put(what, 0, 5, 3, 9);
        files(what, imageOf(what, 0), 0, -1, -1, -1, -1, 20, 3);
        files(what, 0, 1, -1, -1, -1, -1, ALL, 9);
        what.range(0, 1, 2, "file", 0, 4, 0);
        what.range(0, 1, 2, "file", 0, 0, 0);
        Edge none = new Edge(10, "NONE if it has it not");
        none.times(2, "layer");
        put(none, 0, 0, 1, 0);
        put(none, 0, 5, 0, 0);
        none.call("hide", 1, 0);
        none.call("seal", 1);
        files(none, imageOf(none, 0), 1, 0, -1, -1, -1, -1, 0, -1, -1, -1, -1);
        files(none, none.call("image", Check.codes(0, 1)), 1, -1, -1, -1, -1, -1, 0, -1, -1, -1, -1);
        Edge image = new Edge(10, "IndexOutOfBoundsException if there is no such image");
        sealedLayers(image, 2);
        image.due(0, "image", Check.codes(0));
        image.due(1, "image", Check.codes(1));
        image.numbers(2, 0, "file", 0, 0, 0);
        image.refused(Check.NO_SUCH, "file", 2, 10, 2);
        image.refused(Check.NO_SUCH, "file", -1, -1, -1);
        Edge range = new Edge(10, "IllegalArgumentException if another argument is out of its range");
        oneOfEach(range);
        for (int number = 0; number < 2; number++) {
            range.refused(Check.RANGE, "file", number, -1, 0);
            range.refused(Check.RANGE, "file", number, 10, 0);
            range.refused(Check.RANGE, "file", number, 0, -1);
            range.refused(Check.RANGE, "file", number, 0, 2);
        }
        Edge gone = new Edge(10, "IllegalStateException if the image is gone");
        oneOfEach(gone);
        gone.due(0, "file", 0, 5, 0);
        gone.refused(Check.STATE, "file", 1, 5, 0);
        gone.refused(Check.STATE, "file", 1, 0, 1);
    }
}
