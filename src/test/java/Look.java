import java.util.ArrayList;
import java.util.List;

/**
 * What can be seen of a box, in parts. A part is looked at on a box of its own, since some of its calls change the box,
 * and since all parts together would be more calls than are promised.
 */
final class Look {
    static final int PARTS = 20;
    private static final long NO_SUCH = Long.MIN_VALUE, REFUSED = Long.MIN_VALUE + 1;
    private static final int LAYERS = 24, IMAGES = 12, DOCUMENTS = 6, JOBS = 40, FILES = 10, WORDS = 60;

    final List<Told> asked = new ArrayList<>();
    final List<Long> answers = new ArrayList<>();
    private final Box box;

    private Look(Box box) {
        this.box = box;
    }

    static Look at(Box box, int part) {
        Look look = new Look(box);
        switch (part) {
            case 0 -> look.layers();
            case 1, 2, 3, 4 -> look.files(part * LAYERS / 4 - LAYERS / 4, part * LAYERS / 4);
            case 5 -> look.images(0, IMAGES / 2);
            case 6 -> look.images(IMAGES / 2, IMAGES);
            case 7 -> look.held();
            case 8 -> look.documents();
            case 9 -> look.owners();
            case 10 -> look.jobs(0, JOBS / 2);
            case 11 -> look.jobs(JOBS / 2, JOBS);
            case 12 -> look.pages(0, JOBS / 2);
            case 13 -> look.pages(JOBS / 2, JOBS);
            default -> look.words(part - 14);
        }
        return look;
    }

    /** The first call that two looks answer otherwise; null without one. */
    Told firstUnlike(Look other) {
        for (int i = 0; i < asked.size(); i++) {
            if (i >= other.asked.size() || !answers.get(i).equals(other.answers.get(i))) {
                return asked.get(i);
            }
        }
        return other.asked.size() > asked.size() ? other.asked.get(asked.size()) : null;
    }

    private long ask(String name, long... arguments) {
        Told told = new Told(name, arguments);
        long answer;
        try {
            answer = box.take(told);
        } catch (IndexOutOfBoundsException e) {
            answer = NO_SUCH;
        } catch (RuntimeException e) {
            answer = REFUSED;
        }
        asked.add(told);
        answers.add(answer);
        return answer;
    }

    private void layers() {
        for (int layer = 0; ask("ofLayer", layer, 0) != NO_SUCH; layer++) {
            ask("ofLayer", layer, 1);
        }
        ask("layer");
    }

    /** A layer with all files, so that a layer above it shows what it has and what it hides; NONE if there are 24. */
    private long base() {
        if (ask("ofLayer", LAYERS - 1, 0) != NO_SUCH) {
            return PressBox.NONE;
        }
        long base = ask("layer");
        for (int file = 0; file < FILES; file++) {
            if (file < 5) {
                ask("font", base, file, 20 - file, Edge.ALL);
            } else {
                ask("pack", base, file, file % 4, 9);
            }
        }
        ask("seal", base);
        return base;
    }

    private void files(int from, int to) {
        long base = base();
        for (int layer = from; layer < to && ask("seal", layer) != NO_SUCH; layer++) {
            long below = base < 0 ? layer : base;
            long image = ask("image", layer + 1L << 8 | below + 1);
            if (image >= 0) {
                filesOf(image);
            }
        }
    }

    private void filesOf(long image) {
        for (int file = 0; file < FILES; file++) {
            ask("file", image, file, 0);
            ask("file", image, file, 1);
        }
    }

    private void images(int from, int to) {
        for (int image = from; image < to && ask("file", image, 0, 0) != NO_SUCH; image++) {
            filesOf(image);
        }
    }

    private void held() {
        for (int image = 0; image < IMAGES; image++) {
            for (int times = 0; times < 9 && ask("drop", image) >= 0; times++) {
                ask("ofLayer", 0, 1);
            }
        }
    }

    private void documents() {
        for (int document = 0; document < DOCUMENTS && ask("version", document) != NO_SUCH; document++) {
            ask("reference", document, 0);
            ask("paragraph", document, 0);
            ask("word", document, 1);
            for (int style = 0; style < 4; style++) {
                ask("style", document, style, 0);
            }
            for (int file = 5; file < FILES; file++) {
                ask("include", document, file, 0);
            }
            ask("version", document);
        }
        ask("document", 20, 3);
    }

    private void owners() {
        for (int owner = 0; owner < 4; owner++) {
            ask("left", owner);
            ask("quota", owner, 1);
        }
    }

    private void jobs(int from, int to) {
        for (int job = from; job < to && ask("penalties", job) != NO_SUCH; job++) {
            for (int what = 0; what < 7; what++) {
                ask("job", job, what);
            }
        }
    }

    private void pages(int from, int to) {
        for (int job = from; job < to && ask("differences", job, 0) != NO_SUCH; job++) {
            for (int what = 0; what < 5; what++) {
                ask("line", job, 0, what);
            }
            ask("line", job, 1, 2);
            ask("anew", job, 0);
            ask("anew", job, 2);
            ask("shows", job, 0);
            ask("shows", job, 1);
        }
    }

    /** What is in a document is seen in a job of it that cannot be kept, of an image with fonts of many widths. */
    private void words(int document) {
        if (ask("version", document) == NO_SUCH) {
            return;
        }
        long base = base();
        long image = base < 0 ? REFUSED : ask("image", base + 1);
        for (int held = 0; image < 0 && held < IMAGES; held++) {
            image = ask("file", held, 0, 0) >= PressBox.NONE ? held : REFUSED;
        }
        ask("style", document, 3, ask("style", document, 3, 0));
        ask("word", document, 1);
        ask("quota", 3, 1000);
        long job = ask("run", 3, document, image < 0 ? 0 : image);
        if (job >= 0) {
            linesOf(job);
        }
    }

    private void linesOf(long job) {
        for (int what = 0; what < 7; what++) {
            ask("job", job, what);
        }
        for (int line = 0; ask("line", job, line, 0) >= 0; line++) {
            ask("line", job, line, 1);
            ask("line", job, line, 3);
            ask("line", job, line, 4);
        }
        for (int word = 0; word < WORDS; word++) {
            ask("shows", job, word);
        }
    }
}
