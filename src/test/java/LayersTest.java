/** Promises 1 to 10: a new object, layers and images. */
public final class LayersTest {
    private static final int ALL = 67108863;

    public static void main(String[] args) {
        promise1();
        promise2();
        promise3();
        promise4();
        promise5();
        promise6();
        promise7();
        promise7Refusals();
        promise7Limit();
        promise8();
        promise9();
        promise10();
        Check.end("LayersTest");
    }

    private static void promise1() {
        PressBox x = new PressBox();
        for (int owner = 0; owner < 4; owner++) {
            Check.same("left of " + owner, x.left(owner), 0);
        }
        Check.refused("no layers", Check.NO_SUCH, () -> x.ofLayer(0, 0));
        Check.refused("no images", Check.NO_SUCH, () -> x.file(0, 0, 0));
        Check.refused("no documents", Check.NO_SUCH, () -> x.version(0));
        Check.refused("no jobs", Check.NO_SUCH, () -> x.job(0, 0));
        Check.same("NONE", PressBox.NONE, -1);
        Check.same("RAN", PressBox.RAN, 0);
        Check.same("KEPT", PressBox.KEPT, 1);
        Check.same("STOPPED", PressBox.STOPPED, 2);
        Check.same("OPEN", PressBox.OPEN, 0);
        Check.same("SEALED", PressBox.SEALED, 1);
        Check.same("GONE", PressBox.GONE, 2);
    }

    private static void promise2() {
        PressBox x = new PressBox();
        for (int i = 0; i < 24; i++) {
            Check.same("layer()", x.layer(), i);
            Check.same("begins open", x.ofLayer(i, 0), PressBox.OPEN);
        }
        Check.refused("a 25th layer", Check.STATE, () -> x.layer());
        x.seal(0);
        x.drop(x.image(Check.codes(0)));
        Check.same("a gone layer", x.ofLayer(0, 0), PressBox.GONE);
        Check.refused("a layer behind a gone one", Check.STATE, () -> x.layer());
    }

    private static void promise3() {
        PressBox x = new PressBox();
        x.layer();
        x.font(0, 0, 1, 0);
        x.font(0, 4, 19, 5);
        x.font(0, 4, 20, ALL);
        x.hide(0, 3);
        x.font(0, 3, 7, 9);
        Check.refused("layer -1", Check.NO_SUCH, () -> x.font(-1, 9, 0, -1));
        Check.refused("layer 1", Check.NO_SUCH, () -> x.font(1, 0, 1, 0));
        Check.refused("layer 24", Check.NO_SUCH, () -> x.font(24, 0, 1, 0));
        Check.refused("the greatest layer", Check.NO_SUCH, () -> x.font(Integer.MAX_VALUE, 0, 1, 0));
        Check.refused("file -1", Check.RANGE, () -> x.font(0, -1, 1, 0));
        Check.refused("file 5", Check.RANGE, () -> x.font(0, 5, 1, 0));
        Check.refused("width 0", Check.RANGE, () -> x.font(0, 0, 0, 0));
        Check.refused("width 21", Check.RANGE, () -> x.font(0, 0, 21, 0));
        Check.refused("cover -1", Check.RANGE, () -> x.font(0, 0, 1, -1));
        Check.refused("cover above all", Check.RANGE, () -> x.font(0, 0, 1, ALL + 1));
        x.seal(0);
        Check.refused("sealed, and width 0", Check.RANGE, () -> x.font(0, 0, 0, 0));
        Check.refused("sealed", Check.STATE, () -> x.font(0, 0, 2, 3));
        x.image(1);
        Check.same("width 0", x.file(0, 0, 0), 1);
        Check.same("cover 0", x.file(0, 0, 1), 0);
        Check.same("width 4", x.file(0, 4, 0), 20);
        Check.same("cover 4", x.file(0, 4, 1), ALL);
        Check.same("width 3", x.file(0, 3, 0), 7);
        Check.same("cover 3", x.file(0, 3, 1), 9);
        Check.same("no font 1", x.file(0, 1, 0), PressBox.NONE);
        x.drop(0);
        Check.refused("gone", Check.STATE, () -> x.font(0, 0, 2, 3));
    }

    private static void promise4() {
        PressBox x = new PressBox();
        x.layer();
        x.pack(0, 5, 0, 0);
        x.pack(0, 9, 1, 1);
        x.pack(0, 9, 3, 9);
        x.hide(0, 7);
        x.pack(0, 7, 2, 4);
        Check.refused("layer -1", Check.NO_SUCH, () -> x.pack(-1, 4, 4, 10));
        Check.refused("layer 1", Check.NO_SUCH, () -> x.pack(1, 5, 0, 0));
        Check.refused("file 4", Check.RANGE, () -> x.pack(0, 4, 0, 0));
        Check.refused("file 10", Check.RANGE, () -> x.pack(0, 10, 0, 0));
        Check.refused("space -1", Check.RANGE, () -> x.pack(0, 5, -1, 0));
        Check.refused("space 4", Check.RANGE, () -> x.pack(0, 5, 4, 0));
        Check.refused("version -1", Check.RANGE, () -> x.pack(0, 5, 0, -1));
        Check.refused("version 10", Check.RANGE, () -> x.pack(0, 5, 0, 10));
        x.seal(0);
        Check.refused("sealed, and file 4", Check.RANGE, () -> x.pack(0, 4, 0, 0));
        Check.refused("sealed", Check.STATE, () -> x.pack(0, 5, 1, 1));
        x.image(1);
        Check.same("space 5", x.file(0, 5, 0), 0);
        Check.same("version 5", x.file(0, 5, 1), 0);
        Check.same("space 9", x.file(0, 9, 0), 3);
        Check.same("version 9", x.file(0, 9, 1), 9);
        Check.same("space 7", x.file(0, 7, 0), 2);
        Check.same("version 7", x.file(0, 7, 1), 4);
        Check.same("no pack 6", x.file(0, 6, 1), PressBox.NONE);
    }

    private static void promise5() {
        PressBox x = new PressBox();
        x.layer();
        x.font(0, 0, 3, 3);
        x.font(0, 1, 4, 4);
        x.pack(0, 9, 1, 1);
        x.seal(0);
        x.layer();
        x.font(1, 0, 9, 9);
        x.hide(1, 0);
        x.hide(1, 9);
        Check.refused("layer 2", Check.NO_SUCH, () -> x.hide(2, 10));
        Check.refused("layer -1", Check.NO_SUCH, () -> x.hide(-1, 0));
        Check.refused("file -1", Check.RANGE, () -> x.hide(1, -1));
        Check.refused("file 10", Check.RANGE, () -> x.hide(1, 10));
        Check.refused("sealed, and file 10", Check.RANGE, () -> x.hide(0, 10));
        Check.refused("sealed", Check.STATE, () -> x.hide(0, 0));
        x.seal(1);
        x.image(Check.codes(0, 1));
        x.image(Check.codes(1, 0));
        Check.same("hidden font", x.file(0, 0, 0), PressBox.NONE);
        Check.same("font through", x.file(0, 1, 0), 4);
        Check.same("hidden pack", x.file(0, 9, 1), PressBox.NONE);
        Check.same("the other way round: font", x.file(1, 0, 0), 3);
        Check.same("the other way round: pack", x.file(1, 9, 1), 1);
    }

    private static void promise6() {
        PressBox x = new PressBox();
        for (int i = 0; i < 12; i++) {
            x.layer();
        }
        x.font(0, 2, 5, 6);
        x.font(1, 2, 5, 6);
        x.font(2, 2, 5, 7);
        x.font(3, 2, 4, 6);
        x.font(4, 3, 5, 6);
        x.hide(5, 2);
        x.hide(7, 2);
        x.font(8, 2, 5, 6);
        Check.refused("layer -1", Check.NO_SUCH, () -> x.seal(-1));
        Check.refused("layer 12", Check.NO_SUCH, () -> x.seal(12));
        Check.same("the open one does not count", x.seal(1), PressBox.NONE);
        Check.same("sealed", x.ofLayer(1, 0), PressBox.SEALED);
        Check.same("alike to the later one", x.seal(0), 1);
        Check.refused("sealed already", Check.STATE, () -> x.seal(0));
        Check.same("another cover", x.seal(2), PressBox.NONE);
        Check.same("another width", x.seal(3), PressBox.NONE);
        Check.same("another file", x.seal(4), PressBox.NONE);
        Check.same("hidden", x.seal(5), PressBox.NONE);
        Check.same("nothing is not hidden", x.seal(6), PressBox.NONE);
        Check.same("hidden too", x.seal(7), 5);
        x.drop(x.image(Check.codes(0)));
        Check.same("the gone one does not count", x.seal(8), 1);
        Check.same("nothing too", x.seal(9), 6);
        x.pack(10, 8, 0, 0);
        Check.same("an empty package is not nothing", x.seal(10), PressBox.NONE);
        x.hide(11, 8);
        x.pack(11, 8, 0, 0);
        Check.same("hidden at first", x.seal(11), 10);
        x.drop(x.image(Check.codes(10)));
        Check.refused("gone", Check.STATE, () -> x.seal(10));
        PressBox y = new PressBox();
        for (int i = 0; i < 24; i++) {
            y.layer();
            Check.same("the lowest of all", y.seal(i), i == 0 ? PressBox.NONE : 0);
        }
    }

    private static void promise7() {
        PressBox x = new PressBox();
        for (int i = 0; i < 4; i++) {
            x.layer();
        }
        x.font(0, 0, 1, 1);
        x.font(1, 0, 2, 2);
        x.font(2, 0, 1, 1);
        x.font(3, 1, 3, 3);
        for (int i = 0; i < 4; i++) {
            x.seal(i);
        }
        Check.same("one layer", x.image(Check.codes(0)), 0);
        Check.same("two", x.image(Check.codes(0, 1)), 1);
        Check.same("the other way round", x.image(Check.codes(1, 0)), 2);
        Check.same("alike, one by one", x.image(Check.codes(2)), 0);
        Check.same("alike rows", x.image(Check.codes(1, 2)), 2);
        Check.same("twice the same, with the same files", x.image(Check.codes(0, 0)), 3);
        Check.same("the alike one too", x.image(Check.codes(2, 0)), 3);
        Check.same("six", x.image(Check.codes(3, 0, 1, 0, 1, 3)), 4);
        Check.same("its uppermost font 0", x.file(4, 0, 0), 2);
        Check.same("its font 1", x.file(4, 1, 1), 3);
        Check.same("the upper one wins", x.file(1, 0, 0), 2);
        Check.same("the upper one wins", x.file(2, 0, 0), 1);
        x.drop(0);
        Check.same("held still", x.image(Check.codes(2)), 0);
        x.drop(0);
        x.drop(0);
        Check.same("a new number behind a gone image", x.image(Check.codes(0)), 5);
    }

    private static void promise7Refusals() {
        PressBox x = new PressBox();
        Check.refused("no layer there is", Check.RANGE, () -> x.image(1));
        for (int i = 0; i < 3; i++) {
            x.layer();
        }
        x.seal(0);
        x.seal(1);
        Check.refused("none", Check.RANGE, () -> x.image(0));
        Check.refused("seven", Check.RANGE, () -> x.image(Check.codes(0, 0, 0, 0, 0, 0, 0)));
        Check.refused("eight", Check.RANGE, () -> x.image(Check.codes(0, 0, 0, 0, 0, 0, 0, 0)));
        Check.refused("layer 3", Check.RANGE, () -> x.image(Check.codes(0, 3)));
        Check.refused("layer 254", Check.RANGE, () -> x.image(Check.codes(254)));
        Check.refused("a gap", Check.RANGE, () -> x.image(1L | 1L << 16));
        Check.refused("a gap at first", Check.RANGE, () -> x.image(1L << 8));
        Check.refused("something far behind", Check.RANGE, () -> x.image(1L | 1L << 56));
        Check.refused("below 0", Check.RANGE, () -> x.image(-1L));
        Check.refused("the least", Check.RANGE, () -> x.image(Long.MIN_VALUE));
        Check.refused("open, and no layer", Check.RANGE, () -> x.image(Check.codes(2, 3)));
        Check.refused("open", Check.STATE, () -> x.image(Check.codes(0, 2)));
        Check.refused("open, the lowest", Check.STATE, () -> x.image(Check.codes(2, 0)));
        x.drop(x.image(Check.codes(1)));
        Check.refused("gone", Check.STATE, () -> x.image(Check.codes(0, 1)));
        Check.same("nothing was made by that", x.image(Check.codes(0)), 1);
    }

    private static void promise7Limit() {
        PressBox x = new PressBox();
        for (int i = 0; i < 13; i++) {
            x.layer();
            x.font(i, 0, i + 1, 0);
            x.seal(i);
        }
        for (int i = 0; i < 12; i++) {
            Check.same("image", x.image(Check.codes(i)), i);
        }
        Check.refused("a 13th image", Check.STATE, () -> x.image(Check.codes(12)));
        Check.same("one that is held", x.image(Check.codes(11)), 11);
        x.drop(3);
        Check.refused("gone ones count too", Check.STATE, () -> x.image(Check.codes(12)));
        Check.refused("layer gone with its image", Check.STATE, () -> x.image(Check.codes(3)));
        Check.same("the last image", x.file(11, 0, 0), 12);
        Check.refused("none behind it", Check.NO_SUCH, () -> x.file(12, 0, 0));
    }

    private static void promise8() {
        PressBox x = new PressBox();
        for (int i = 0; i < 6; i++) {
            x.layer();
            x.pack(i, 5, 0, i);
        }
        for (int i = 0; i < 5; i++) {
            x.seal(i);
        }
        Check.refused("image 0", Check.NO_SUCH, () -> x.drop(0));
        x.image(Check.codes(0, 1, 0));
        x.image(Check.codes(1, 2));
        x.image(Check.codes(1, 2));
        x.image(Check.codes(3));
        Check.refused("image -1", Check.NO_SUCH, () -> x.drop(-1));
        Check.refused("image 3", Check.NO_SUCH, () -> x.drop(3));
        Check.refused("image 12", Check.NO_SUCH, () -> x.drop(12));
        Check.same("layer 0 alone, once", x.drop(0), 1);
        Check.same("layer 0", x.ofLayer(0, 0), PressBox.GONE);
        Check.same("layer 1 is in the other one", x.ofLayer(1, 0), PressBox.SEALED);
        Check.refused("gone", Check.STATE, () -> x.drop(0));
        Check.same("held once more", x.drop(1), 0);
        Check.same("the last time", x.drop(1), 2);
        Check.refused("gone too", Check.STATE, () -> x.drop(1));
        Check.same("in no image ever", x.ofLayer(4, 0), PressBox.SEALED);
        Check.same("open", x.ofLayer(5, 0), PressBox.OPEN);
        Check.same("the rest", x.drop(2), 1);
    }

    private static void promise9() {
        PressBox x = new PressBox();
        x.layer();
        x.layer();
        x.pack(1, 5, 1, 1);
        Check.same("open", x.ofLayer(0, 0), PressBox.OPEN);
        x.seal(0);
        x.seal(1);
        Check.same("sealed", x.ofLayer(0, 0), PressBox.SEALED);
        Check.same("in none", x.ofLayer(0, 1), 0);
        x.image(Check.codes(0, 0));
        Check.same("twice in one", x.ofLayer(0, 1), 1);
        x.image(Check.codes(0, 0));
        Check.same("one held twice", x.ofLayer(0, 1), 1);
        x.image(Check.codes(0, 1));
        Check.same("in two", x.ofLayer(0, 1), 2);
        Check.same("in one", x.ofLayer(1, 1), 1);
        x.layer();
        x.seal(2);
        Check.same("alike only", x.image(Check.codes(2, 2)), 0);
        Check.same("an alike one is in none", x.ofLayer(2, 1), 0);
        x.drop(1);
        Check.same("one is gone", x.ofLayer(0, 1), 1);
        Check.same("gone", x.ofLayer(1, 0), PressBox.GONE);
        Check.same("in none any more", x.ofLayer(1, 1), 0);
        Check.refused("layer -1", Check.NO_SUCH, () -> x.ofLayer(-1, 2));
        Check.refused("layer 3", Check.NO_SUCH, () -> x.ofLayer(3, 2));
        Check.refused("what -1", Check.RANGE, () -> x.ofLayer(0, -1));
        Check.refused("what 2", Check.RANGE, () -> x.ofLayer(0, 2));
    }

    private static void promise10() {
        PressBox x = new PressBox();
        x.layer();
        x.font(0, 1, 11, 12);
        x.pack(0, 5, 3, 8);
        x.seal(0);
        x.image(1);
        Check.same("width", x.file(0, 1, 0), 11);
        Check.same("cover", x.file(0, 1, 1), 12);
        Check.same("space", x.file(0, 5, 0), 3);
        Check.same("version", x.file(0, 5, 1), 8);
        Check.same("nothing", x.file(0, 0, 0), PressBox.NONE);
        Check.same("nothing", x.file(0, 9, 1), PressBox.NONE);
        Check.refused("image -1", Check.NO_SUCH, () -> x.file(-1, 10, 2));
        Check.refused("image 1", Check.NO_SUCH, () -> x.file(1, 0, 0));
        Check.refused("file -1", Check.RANGE, () -> x.file(0, -1, 0));
        Check.refused("file 10", Check.RANGE, () -> x.file(0, 10, 0));
        Check.refused("what -1", Check.RANGE, () -> x.file(0, 0, -1));
        Check.refused("what 2", Check.RANGE, () -> x.file(0, 0, 2));
        x.drop(0);
        Check.refused("gone, and what 2", Check.RANGE, () -> x.file(0, 0, 2));
        Check.refused("gone", Check.STATE, () -> x.file(0, 0, 0));
    }
}
