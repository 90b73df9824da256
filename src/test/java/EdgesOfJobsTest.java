/** The boundaries of promises 18 to 21 and 27, and of what the document says of jobs, each by itself. */
public final class EdgesOfJobsTest {
    private static final int ALL = Edge.ALL;
    private static final int NONE = PressBox.NONE;

    public static void main(String[] args) {
        ownersOfTerms();
        readsOfTerms();
        keptOfTerms();
        costsOfTerms();
        stoppedOfTerms();
        buildsOfTerms();
        writtenOfTerms();
        quotaRanges();
        quotaRefusals();
        run();
        runStates();
        write();
        writeStates();
        job();
        jobRefusals();
        left();
        Edge.document().coversTerms("A job is of an owner", "The constants: ");
        Edge.document().coversPromises(18, 21);
        Edge.document().coversPromises(27, 27);
        Check.end("EdgesOfJobsTest");
    }

    // ---- what several edges begin with

    /** Image 0 has the font 0 of width 20 for all letters; document 0 has a page of three lines, and no words. */
    private static void press(Edge e) {
        e.call("layer");
        e.call("font", 0, 0, 20, ALL);
        e.call("seal", 0);
        e.due(0, "image", 1);
        e.due(0, "document", 20, 3);
    }

    /** Words of a new paragraph of document 0, each of which is a line. */
    private static void lines(Edge e, int count) {
        e.call("paragraph", 0, 0);
        e.times(count, "word", 0, 1);
    }

    /** What job() tells of a job from 0 to 6. */
    private static void tells(Edge e, int job, long... want) {
        e.row("job", 1, new long[] {job, 0}, want);
    }

    /** Job 0 has a build, job 1 was stopped; layer 0 is sealed, layer 1 is gone with image 1, and layer 2 is open. */
    private static void twoJobs(Edge e) {
        press(e);
        e.call("quota", 0, 1000);
        e.due(0, "run", 0, 0, 0);
        e.call("style", 0, 0, 0);
        e.due(1, "run", 1, 0, 0);
        e.due(1, "layer");
        e.call("seal", 1);
        e.due(1, "image", 2);
        e.due(1, "drop", 1);
        e.due(2, "layer");
    }

    /** The packages 5 to 9 of an image of one layer: their spaces with what 0, their versions with 1. */
    private static void packs(Edge e, long layer, int what, long... want) {
        e.call("seal", layer);
        long image = e.call("image", layer + 1);
        for (int i = 0; i < want.length; i++) {
            e.due(want[i], "file", image, 5 + i, what);
        }
    }

    // ---- terms

    private static void ownersOfTerms() {
        Edge owner = new Edge(Edge.TERMS, "A job is of an owner, 0 to 3");
        press(owner);
        owner.call("quota", 0, 5);
        owner.call("quota", 3, 6);
        owner.due(0, "run", 0, 0, 0);
        owner.call("style", 0, 0, 0);
        owner.due(1, "run", 3, 0, 0);
        owner.refused(Check.RANGE, "run", -1, 0, 0);
        owner.refused(Check.RANGE, "run", 4, 0, 0);
        owner.row("left", 0, new long[] {0}, 0, 0, 0, 1);
        Edge count = new Edge(Edge.TERMS, "jobs are numbered from 0, at most 40");
        press(count);
        for (int job = 0; job < 40; job++) {
            count.due(job, "run", 0, 0, 0);
        }
        count.refused(Check.STATE, "run", 0, 0, 0);
        count.numbers(40, 0, "job", 0, 0);
    }

    private static void readsOfTerms() {
        Edge packs = new Edge(Edge.TERMS, "It reads of the image the packages that the document includes");
        press(packs);
        packs.call("quota", 0, 1000);
        packs.call("run", 0, 0, 0);
        packs.due(0, "job", 0, 6);
        for (int file = 5; file < 10; file++) {
            packs.call("include", 0, file, 1);
        }
        packs.call("run", 0, 0, 0);
        packs.due(32 + 64 + 128 + 256 + 512, "job", 1, 6);
        lines(packs, 0);
        packs.call("reference", 0, 0);
        packs.call("run", 0, 0, 0);
        packs.due(32 + 64 + 128 + 256 + 512, "job", 2, 6);
        Edge fonts = new Edge(Edge.TERMS, "each font that is looked at to find the width of a letter");
        fonts.call("layer");
        fonts.call("font", 0, 4, 1, 1);
        fonts.call("font", 0, 1, 1, 2);
        fonts.call("seal", 0);
        fonts.call("image", 1);
        fonts.call("quota", 0, 1000);
        for (int document = 0; document < 3; document++) {
            fonts.call("document", 20, 3);
            fonts.call("style", document, 0, 4);
            fonts.call("paragraph", document, 0);
            fonts.call("word", document, document + 1);
            fonts.call("run", 0, document, 0);
        }
        fonts.due(16, "job", 0, 6);
        fonts.due(16 + 1 + 2, "job", 1, 6);
        fonts.due(31, "job", 2, 6);
        Edge lacks = new Edge(Edge.TERMS, "also if the image does not have it");
        lacks.call("layer");
        lacks.call("seal", 0);
        lacks.call("image", 1);
        lacks.call("quota", 0, 1000);
        lacks.call("document", 20, 3);
        lines(lacks, 1);
        lacks.call("include", 0, 9, 1);
        lacks.call("run", 0, 0, 0);
        lacks.due(31 + 512, "job", 0, 6);
    }

    private static void keptOfTerms() {
        Edge kept = new Edge(Edge.TERMS, "It is KEPT, with a cost of 0");
        press(kept);
        kept.call("quota", 0, 5);
        kept.call("run", 0, 0, 0);
        kept.call("run", 0, 0, 0);
        kept.call("run", 3, 0, 0);
        tells(kept, 0, PressBox.RAN, 5, 0, 0, 0, 1, 0);
        tells(kept, 1, PressBox.KEPT, 0, 0, 0, 0, 1, 0);
        tells(kept, 2, PressBox.KEPT, 0, 0, 0, 0, 1, 0);
        kept.row("left", 0, new long[] {0}, 0, 0, 0, 0);
        Edge version = new Edge(Edge.TERMS, "if there is a build of the document with the same version");
        press(version);
        version.call("document", 20, 3);
        version.call("quota", 0, 1000);
        version.call("run", 0, 0, 0);
        version.call("run", 0, 1, 0);
        version.due(1, "job", 1, 2);
        version.call("style", 0, 0, 0);
        version.call("run", 0, 0, 0);
        version.due(2, "job", 2, 2);
        version.call("run", 0, 1, 0);
        version.due(1, "job", 3, 2);
        Edge files = new Edge(Edge.TERMS, "of which the image has all files that it read as they were then");
        files(files);
        Edge hidden = new Edge(Edge.TERMS, "what is hidden is nothing, as what no layer has");
        press(hidden);
        hidden.times(2, "layer");
        hidden.call("hide", 1, 5);
        hidden.call("pack", 2, 5, 0, 0);
        hidden.call("seal", 1);
        hidden.call("seal", 2);
        hidden.due(1, "image", Check.codes(0, 1));
        hidden.due(2, "image", Check.codes(0, 2));
        hidden.due(3, "image", Check.codes(0, 2, 1));
        hidden.call("include", 0, 5, 1);
        hidden.call("quota", 0, 1000);
        for (int image = 0; image < 4; image++) {
            hidden.call("run", 0, 0, image);
        }
        hidden.row("job", 0, new long[] {0, 0}, PressBox.RAN, PressBox.KEPT, PressBox.RAN, PressBox.KEPT);
        Edge first = new Edge(Edge.TERMS, "the first such build is that of the job");
        press(first);
        first.call("quota", 0, 1000);
        first.times(3, "run", 0, 0, 0);
        first.call("style", 0, 0, 0);
        first.times(3, "run", 0, 0, 0);
        first.row("job", 0, new long[] {0, 2}, 0, 0, 0, 1, 1, 1);
    }

    /** Images beside image 0 that differ in one file: in one that is read, each runs anew; in another, none does. */
    private static void files(Edge e) {
        press(e);
        lines(e, 1);
        e.call("include", 0, 9, 1);
        long[][] others = {{0, 19, ALL}, {0, 20, ALL - 2}, {1, 20, ALL}, {5, 0, 0}, {8, 3, 9}, {9, 0, 0}, {9, 1, 0},
            {9, 0, 1}};
        for (int i = 0; i < others.length; i++) {
            long layer = e.call("layer");
            e.call(others[i][0] < 5 ? "font" : "pack", layer, others[i][0], others[i][1], others[i][2]);
            e.call("seal", layer);
            e.due(i + 1, "image", layer + 1 << 8 | 1);
        }
        e.call("quota", 0, 1000);
        for (int image = 0; image <= others.length; image++) {
            e.call("run", 0, 0, image);
        }
        e.row("job", 0, new long[] {0, 0}, 0, 0, 0, 1, 1, 1, 0, 0, 0);
        e.row("job", 0, new long[] {0, 2}, 0, 1, 2, 0, 0, 0, 3, 4, 5);
    }

    private static void costsOfTerms() {
        Edge least = new Edge(Edge.TERMS, "its cost is the passes times (5 and the lines of the last one, together)");
        press(least);
        least.call("quota", 0, 1000);
        least.call("run", 0, 0, 0);
        least.due(5, "job", 0, 1);
        lines(least, 59);
        least.call("reference", 0, 0);
        least.call("run", 0, 0, 0);
        least.due(1 * (5 + 60), "job", 1, 1);
        least.call("document", 20, 3);
        least.call("paragraph", 1, 0);
        least.times(4, "word", 1, 1);
        least.call("paragraph", 1, 0);
        least.times(2, "reference", 1, 1);
        least.call("run", 0, 1, 0);
        tells(least, 2, PressBox.RAN, 2 * (5 + 5), 2, 2, 5, 2, 1);
        least.due(1000 - 5 - 65 - 20, "left", 0);
    }

    private static void stoppedOfTerms() {
        Edge less = new Edge(Edge.TERMS, "if its owner has less left, it is STOPPED, at a cost of all that is left");
        press(less);
        lines(less, 3);
        for (int owner = 0; owner < 3; owner++) {
            less.call("quota", owner, 7 + owner);
        }
        less.call("run", 3, 0, 0);
        less.call("run", 0, 0, 0);
        less.call("run", 0, 0, 0);
        less.call("run", 1, 0, 0);
        tells(less, 0, PressBox.STOPPED, 0, -1, -1, -1, -1, -1);
        tells(less, 1, PressBox.STOPPED, 7, -1, -1, -1, -1, -1);
        tells(less, 2, PressBox.STOPPED, 0, -1, -1, -1, -1, -1);
        tells(less, 3, PressBox.RAN, 8, 0, 1, 3, 1, 1);
        less.call("style", 0, 0, 0);
        less.call("run", 2, 0, 0);
        tells(less, 4, PressBox.RAN, 8, 1, 1, 3, 1, 1);
        less.row("left", 0, new long[] {0}, 0, 0, 1, 0);
        Edge without = new Edge(Edge.TERMS, "without a build; if not, it RAN");
        press(without);
        without.call("run", 0, 0, 0);
        without.call("quota", 0, 10);
        without.call("run", 0, 0, 0);
        without.due(0, "job", 1, 2);
        without.due(NONE, "job", 0, 2);
    }

    private static void buildsOfTerms() {
        Edge number = new Edge(Edge.TERMS, "a build is made, numbered from 0, and that of the job");
        press(number);
        number.call("quota", 0, 1000);
        for (int build = 0; build < 20; build++) {
            number.call("run", 3, 0, 0);
            number.call("run", 0, 0, 0);
            number.due(NONE, "job", 2 * build, 2);
            number.due(build, "job", 2 * build + 1, 2);
            number.call("include", 0, 5, 0);
        }
        Edge stay = new Edge(Edge.TERMS, "Builds stay");
        press(stay);
        lines(stay, 1);
        stay.call("quota", 0, 6);
        stay.due(0, "run", 0, 0, 0);
        stay.due(1, "drop", 0);
        stay.call("word", 0, 1);
        tells(stay, 0, PressBox.RAN, 6, 0, 1, 1, 1, 1);
        stay.row("line", 2, new long[] {0, 0, 0}, 0, 0, 0, 20, 0);
        stay.call("layer");
        stay.call("write", 0, 1, 5);
        packs(stay, 1, 0, 1);
        Edge again = new Edge(Edge.TERMS, "and that of the job. Builds stay");
        press(again);
        again.call("quota", 0, 5);
        again.call("run", 0, 0, 0);
        again.due(1, "drop", 0);
        again.call("layer");
        again.call("seal", 1);
        again.due(1, "image", 2);
        again.call("run", 0, 0, 1);
        tells(again, 1, PressBox.KEPT, 0, 0, 0, 0, 1, 0);
    }

    private static void writtenOfTerms() {
        Edge space = new Edge(Edge.TERMS, "with as many for its space as it has pages (3, if it has more)");
        press(space);
        space.call("quota", 0, 1000);
        space.call("layer");
        for (int job = 0; job < 5; job++) {
            lines(space, job == 0 ? 0 : 3);
            space.due(job, "run", 0, 0, 0);
            space.due(job, "job", job, 3);
            space.call("write", job, 1, 5 + job);
        }
        packs(space, 1, 0, 0, 1, 2, 3, 3);
        Edge version = new Edge(Edge.TERMS, "as a version the number of its build modulo 10");
        press(version);
        version.call("quota", 0, 1000);
        for (int job = 0; job < 40; job++) {
            version.due(job, "run", 0, 0, 0);
            version.call("style", 0, 0, 0);
        }
        version.call("layer");
        version.call("write", 0, 1, 5);
        version.call("write", 9, 1, 6);
        version.call("write", 10, 1, 7);
        version.call("write", 11, 1, 8);
        version.call("write", 39, 1, 9);
        packs(version, 1, 1, 0, 9, 0, 1, 9);
    }

    // ---- promise 18

    private static void quotaRanges() {
        Edge owner = new Edge(18, "@param owner 0 to 3");
        owner.range(0, 3, 0, "quota", 0, 7);
        owner.row("left", 0, new long[] {0}, 7, 0, 0, 7);
        Edge more = new Edge(18, "@param more 1 to 10000");
        more.range(1, 10000, 1, "quota", 2, 0);
        more.row("left", 0, new long[] {0}, 0, 0, 10001, 0);
        Edge then = new Edge(18, "@return what is left then");
        then.due(1, "quota", 1, 1);
        then.due(10001, "quota", 1, 10000);
        press(then);
        then.call("run", 1, 0, 0);
        then.due(10001 - 5 + 2, "quota", 1, 2);
    }

    private static void quotaRefusals() {
        Edge above = new Edge(18, "IllegalStateException if that would be above 1000000");
        above.times(99, "quota", 0, 10000);
        above.due(990001, "quota", 0, 1);
        above.refused(Check.STATE, "quota", 0, 10000);
        above.due(1000000, "quota", 0, 9999);
        above.refused(Check.STATE, "quota", 0, 1);
        above.refused(Check.STATE, "quota", 0, 10000);
        above.due(1, "quota", 1, 1);
        press(above);
        above.call("run", 0, 0, 0);
        above.refused(Check.STATE, "quota", 0, 6);
        above.due(1000000, "quota", 0, 5);
        Edge range = new Edge(18, "IllegalArgumentException if an argument is out of its range");
        range.times(100, "quota", 0, 10000);
        range.refused(Check.RANGE, "quota", 0, 0);
        range.refused(Check.RANGE, "quota", 0, 10001);
        range.refused(Check.RANGE, "quota", 0, -1);
        range.refused(Check.RANGE, "quota", 4, 1);
        range.refused(Check.RANGE, "quota", -1, 1);
        range.due(1000000, "left", 0);
    }

    // ---- promise 19

    private static void run() {
        Edge range = new Edge(19, "@param owner 0 to 3");
        press(range);
        range.range(0, 3, 0, "run", 0, 0, 0);
        range.due(2, "run", 1, 0, 0);
        Edge owner = new Edge(19, "IllegalArgumentException if owner is out of its range");
        twoJobs(owner);
        for (int wrong : new int[] {-1, 4}) {
            owner.refused(Check.RANGE, "run", wrong, 1, 0);
            owner.refused(Check.RANGE, "run", wrong, 0, 2);
            owner.refused(Check.RANGE, "run", wrong, 0, 1);
            owner.refused(Check.RANGE, "run", wrong, 0, 0);
        }
        owner.times(38, "run", 0, 0, 0);
        owner.refused(Check.RANGE, "run", 4, 0, 0);
        Edge document = new Edge(19, "IndexOutOfBoundsException if there is no such document");
        press(document);
        document.call("document", 20, 3);
        document.numbers(2, 1, "run", 0, 0, 0);
        document.refused(Check.NO_SUCH, "run", 0, 2, 1);
        document.due(1, "drop", 0);
        document.refused(Check.NO_SUCH, "run", 0, 2, 0);
        Edge image = new Edge(19, "or image");
        press(image);
        image.call("layer");
        image.call("seal", 1);
        image.due(1, "image", 2);
        image.numbers(2, 2, "run", 0, 0, 0);
        image.times(38, "run", 0, 0, 0);
        image.refused(Check.NO_SUCH, "run", 0, 0, 2);
        image.refused(Check.NO_SUCH, "run", 0, 0, -1);
        image.refused(Check.NO_SUCH, "run", 0, 1, 0);
    }

    private static void runStates() {
        Edge gone = new Edge(19, "IllegalStateException if the image is gone");
        twoJobs(gone);
        gone.refused(Check.STATE, "run", 0, 0, 1);
        gone.call("image", 1);
        gone.due(0, "drop", 0);
        gone.due(2, "run", 0, 0, 0);
        gone.due(1, "drop", 0);
        gone.refused(Check.STATE, "run", 0, 0, 0);
        Edge forty = new Edge(19, "or there are 40 jobs");
        press(forty);
        forty.call("quota", 0, 6);
        for (int job = 0; job < 40; job++) {
            forty.due(job, "run", job % 4, 0, 0);
            if (job < 4) {
                forty.call("style", 0, 0, 0);
            }
        }
        forty.due(PressBox.RAN, "job", 0, 0);
        forty.due(PressBox.STOPPED, "job", 39, 0);
        forty.call("quota", 0, 7);
        forty.refused(Check.STATE, "run", 0, 0, 0);
        forty.refused(Check.STATE, "run", 3, 0, 0);
        forty.due(7, "left", 0);
    }

    // ---- promise 20

    private static void write() {
        Edge file = new Edge(20, "@param file 5 to 9");
        twoJobs(file);
        file.call("pack", 2, 6, 1, 1);
        file.range(5, 9, 2, "write", 0, 2, 0);
        packs(file, 2, 0, 0, 1, -1, -1, 0);
        Edge place = new Edge(20, "in place of what it has");
        twoJobs(place);
        place.call("pack", 2, 6, 3, 9);
        place.call("hide", 2, 7);
        place.call("write", 0, 2, 6);
        place.call("write", 0, 2, 7);
        packs(place, 2, 1, -1, 0, 0, -1, -1);
        Edge job = new Edge(20, "IndexOutOfBoundsException if there is no such job");
        twoJobs(job);
        job.refused(Check.NO_SUCH, "write", 2, 2, 5);
        job.refused(Check.NO_SUCH, "write", -1, 2, 5);
        job.refused(Check.NO_SUCH, "write", 40, 2, 5);
        job.refused(Check.NO_SUCH, "write", Integer.MAX_VALUE, 2, 5);
        job.refused(Check.NO_SUCH, "write", Integer.MIN_VALUE, 2, 5);
        job.refused(Check.NO_SUCH, "write", 2, 2, 4);
        job.refused(Check.NO_SUCH, "write", 2, 0, 5);
        job.call("write", 0, 2, 5);
        Edge layer = new Edge(20, "or layer");
        twoJobs(layer);
        layer.refused(Check.NO_SUCH, "write", 0, 3, 5);
        layer.refused(Check.NO_SUCH, "write", 0, -1, 5);
        layer.refused(Check.NO_SUCH, "write", 0, 24, 5);
        layer.refused(Check.NO_SUCH, "write", 0, Integer.MAX_VALUE, 5);
        layer.refused(Check.NO_SUCH, "write", 0, Integer.MIN_VALUE, 5);
        layer.refused(Check.NO_SUCH, "write", 0, 3, 10);
        layer.refused(Check.NO_SUCH, "write", 1, 3, 5);
        layer.call("write", 0, 2, 5);
    }

    private static void writeStates() {
        Edge range = new Edge(20, "IllegalArgumentException if file is out of its range");
        twoJobs(range);
        for (int job = 0; job < 2; job++) {
            for (int layer = 0; layer < 3; layer++) {
                range.refused(Check.RANGE, "write", job, layer, 4);
                range.refused(Check.RANGE, "write", job, layer, 10);
            }
        }
        Edge build = new Edge(20, "IllegalStateException if the job has no build");
        twoJobs(build);
        build.refused(Check.STATE, "write", 1, 2, 5);
        build.refused(Check.STATE, "write", 1, 0, 5);
        build.due(2, "run", 0, 0, 0);
        build.call("write", 2, 2, 5);
        build.due(3, "run", 1, 0, 0);
        build.due(PressBox.KEPT, "job", 3, 0);
        build.call("write", 3, 2, 6);
        packs(build, 2, 1, 1, 1);
        Edge open = new Edge(20, "or the layer is not open");
        twoJobs(open);
        open.refused(Check.STATE, "write", 0, 0, 5);
        open.refused(Check.STATE, "write", 0, 1, 5);
        open.call("write", 0, 2, 5);
        open.call("seal", 2);
        open.refused(Check.STATE, "write", 0, 2, 6);
    }

    // ---- promise 21

    /** Document 0 is set in two passes, on two pages, with five lines, one of which has a reference. */
    private static void twoPages(Edge e) {
        press(e);
        lines(e, 4);
        lines(e, 0);
        e.call("reference", 0, 1);
        e.call("include", 0, 7, 1);
        e.call("quota", 0, 25);
        e.due(0, "run", 0, 0, 0);
        e.due(1, "run", 1, 0, 0);
        e.call("include", 0, 7, 1);
        e.due(2, "run", 0, 0, 0);
    }

    private static void job() {
        Edge end = new Edge(21, "0 how it ended, RAN to STOPPED");
        twoPages(end);
        end.row("job", 0, new long[] {0, 0}, PressBox.RAN, PressBox.KEPT, PressBox.STOPPED);
        Edge cost = new Edge(21, "1 its cost");
        twoPages(cost);
        cost.row("job", 0, new long[] {0, 1}, 20, 0, 5);
        Edge build = new Edge(21, "2 its build");
        twoPages(build);
        build.row("job", 0, new long[] {0, 2}, 0, 0, NONE);
        Edge pages = new Edge(21, "3 its pages");
        twoPages(pages);
        pages.row("job", 0, new long[] {0, 3}, 2, 2, NONE);
        Edge lines = new Edge(21, "4 its lines");
        twoPages(lines);
        lines.row("job", 0, new long[] {0, 4}, 5, 5, NONE);
        Edge passes = new Edge(21, "5 its passes");
        twoPages(passes);
        passes.row("job", 0, new long[] {0, 5}, 2, 2, NONE);
        Edge reads = new Edge(21, "6 a set: bit f for each file that it read");
        twoPages(reads);
        reads.row("job", 0, new long[] {0, 6}, 1 + 128, 1 + 128, NONE);
        Edge none = new Edge(21, "2 to 6 NONE without a build");
        twoPages(none);
        tells(none, 2, PressBox.STOPPED, 5, -1, -1, -1, -1, -1);
    }

    private static void jobRefusals() {
        Edge job = new Edge(21, "IndexOutOfBoundsException if there is no such job");
        twoJobs(job);
        job.numbers(2, 0, "job", 0, 0);
        job.refused(Check.NO_SUCH, "job", 2, 7);
        job.refused(Check.NO_SUCH, "job", -1, -1);
        Edge what = new Edge(21, "IllegalArgumentException if what is out of its range");
        twoJobs(what);
        what.range(0, 6, 1, "job", 0, 0);
        what.range(0, 6, 1, "job", 1, 0);
    }

    // ---- promise 27

    private static void left() {
        Edge owner = new Edge(27, "@param owner 0 to 3");
        owner.call("quota", 0, 1);
        owner.call("quota", 3, 10000);
        owner.row("left", 0, new long[] {0}, 1, 0, 0, 10000);
        Edge range = new Edge(27, "IllegalArgumentException if owner is out of its range");
        range.range(0, 3, 0, "left", 0);
        Edge left = new Edge(27, "@return what is left");
        press(left);
        left.call("quota", 2, 14);
        left.due(14, "left", 2);
        for (long rest : new long[] {9, 4, 0, 0}) {
            left.call("run", 2, 0, 0);
            left.due(rest, "left", 2);
            left.call("style", 0, 0, 0);
        }
    }
}
