/** A typesetting service whose jobs run in containers; ../shared/DOC.md says what each call does. */
public final class PressBox {
    public static final int NONE = -1;
    public static final int RAN = 0, KEPT = 1, STOPPED = 2;
    public static final int OPEN = 0, SEALED = 1, GONE = 2;

    private static final int LAYERS = 24, IMAGES = 12, DOCUMENTS = 6, JOBS = 40, OWNERS = 4;
    private static final int FONTS = 5, FILES = 10, LETTERS = 26, STYLES = 4;
    private static final int PARAGRAPHS = 12, WORDS = 60, ROW = 6, CODES = 8;
    private static final int MOST_WIDTH = 20, MOST_SPACE = 3, VERSIONS = 10, ALL_LETTERS = (1 << LETTERS) - 1;
    private static final int MOST_GIVEN = 10000, MOST_LEFT = 1000000;

    private final Layer[] layers = new Layer[LAYERS];
    private final Image[] images = new Image[IMAGES];
    private final Document[] documents = new Document[DOCUMENTS];
    private final Job[] jobs = new Job[JOBS];
    private final int[] purse = new int[OWNERS];
    private final Press press = new Press();
    private int layerCount, imageCount, documentCount, jobCount, buildCount;

    public PressBox() {
    }

    // ---- layers, images

    public int layer() throws IllegalStateException {
        if (layerCount >= LAYERS) {
            throw new IllegalStateException("there are 24 layers");
        }
        layers[layerCount] = new Layer();
        layerCount++;
        return layerCount - 1;
    }

    public void font(int layer, int file, int width, int cover)
            throws IndexOutOfBoundsException, IllegalArgumentException, IllegalStateException {
        Layer changed = layerAt(layer);
        if (!within(file, 0, FONTS - 1) || !within(width, 1, MOST_WIDTH) || !within(cover, 0, ALL_LETTERS)) {
            throw new IllegalArgumentException("file, width or cover");
        }
        checkOpen(changed);
        changed.files.put(file, width, cover);
    }

    public void pack(int layer, int file, int space, int version)
            throws IndexOutOfBoundsException, IllegalArgumentException, IllegalStateException {
        Layer changed = layerAt(layer);
        if (!within(file, FONTS, FILES - 1) || !within(space, 0, MOST_SPACE) || !within(version, 0, VERSIONS - 1)) {
            throw new IllegalArgumentException("file, space or version");
        }
        checkOpen(changed);
        changed.files.put(file, space, version);
    }

    public void hide(int layer, int file)
            throws IndexOutOfBoundsException, IllegalArgumentException, IllegalStateException {
        Layer changed = layerAt(layer);
        if (!within(file, 0, FILES - 1)) {
            throw new IllegalArgumentException("file");
        }
        checkOpen(changed);
        changed.files.conceal(file);
    }

    public int seal(int layer) throws IndexOutOfBoundsException, IllegalStateException {
        Layer closed = layerAt(layer);
        checkOpen(closed);
        closed.state = SEALED;
        for (int i = 0; i < layers.length; i++) {
            Layer other = layers[i];
            if (other != null && other != closed && other.state == SEALED && other.files.sameAs(closed.files)) {
                return i;
            }
        }
        return NONE;
    }

    public int image(long layers) throws IllegalArgumentException, IllegalStateException {
        int[] row = rowOf(layers);
        checkSealed(row);
        Image held = heldAlike(row);
        if (held != null) {
            held.times++;
            return held.number;
        }
        if (imageCount >= IMAGES) {
            throw new IllegalStateException("there are 12 images");
        }
        images[imageCount] = new Image(imageCount, row, stack(row));
        imageCount++;
        return imageCount - 1;
    }

    public int drop(int image) throws IndexOutOfBoundsException, IllegalStateException {
        Image dropped = imageAt(image);
        checkHeld(dropped);
        dropped.times--;
        return dropped.times > 0 ? 0 : letGo(dropped.row);
    }

    public int ofLayer(int layer, int what) throws IndexOutOfBoundsException, IllegalArgumentException {
        Layer asked = layerAt(layer);
        if (!within(what, 0, 1)) {
            throw new IllegalArgumentException("what");
        }
        return what == 0 ? asked.state : holders(layer);
    }

    public int file(int image, int file, int what)
            throws IndexOutOfBoundsException, IllegalArgumentException, IllegalStateException {
        Image asked = imageAt(image);
        if (!within(file, 0, FILES - 1) || !within(what, 0, 1)) {
            throw new IllegalArgumentException("file or what");
        }
        checkHeld(asked);
        if (!asked.files.has(file)) {
            return NONE;
        }
        return what == 0 ? asked.files.size[file] : asked.files.detail[file];
    }

    // ---- documents

    public int document(int measure, int height) throws IllegalArgumentException, IllegalStateException {
        if (!within(measure, 20, 200) || !within(height, 3, 12)) {
            throw new IllegalArgumentException("measure or height");
        }
        if (documentCount >= DOCUMENTS) {
            throw new IllegalStateException("there are 6 documents");
        }
        documents[documentCount] = new Document(measure, height);
        documentCount++;
        return documentCount - 1;
    }

    public int style(int document, int style, int font) throws IndexOutOfBoundsException, IllegalArgumentException {
        Document told = documentAt(document);
        if (!within(style, 0, STYLES - 1) || !within(font, 0, FONTS - 1)) {
            throw new IllegalArgumentException("style or font");
        }
        int before = told.fonts[style];
        told.fonts[style] = font;
        told.version++;
        return before;
    }

    public boolean include(int document, int file, boolean is)
            throws IndexOutOfBoundsException, IllegalArgumentException {
        Document told = documentAt(document);
        if (!within(file, FONTS, FILES - 1)) {
            throw new IllegalArgumentException("file");
        }
        int bit = 1 << file;
        boolean was = (told.included & bit) != 0;
        told.included = is ? told.included | bit : told.included & ~bit;
        told.version++;
        return was;
    }

    public int paragraph(int document, int style)
            throws IndexOutOfBoundsException, IllegalArgumentException, IllegalStateException {
        Document told = documentAt(document);
        if (!within(style, 0, STYLES - 1)) {
            throw new IllegalArgumentException("style");
        }
        if (told.paragraphs >= PARAGRAPHS) {
            throw new IllegalStateException("it has 12 paragraphs");
        }
        told.styles[told.paragraphs] = style;
        told.paragraphs++;
        told.version++;
        return told.paragraphs - 1;
    }

    public int word(int document, long letters)
            throws IndexOutOfBoundsException, IllegalArgumentException, IllegalStateException {
        Document told = documentAt(document);
        if (!allCodes(letters, LETTERS, CODES)) {
            throw new IllegalArgumentException("letters");
        }
        if (told.paragraphs == 0 || told.words >= WORDS) {
            throw new IllegalStateException("no paragraph, or 60 words");
        }
        return told.add(letters, NONE);
    }

    public int reference(int document, int paragraph) throws IndexOutOfBoundsException, IllegalStateException {
        Document told = documentAt(document);
        if (!within(paragraph, 0, told.paragraphs - 1)) {
            throw new IndexOutOfBoundsException("no such paragraph");
        }
        if (told.words >= WORDS) {
            throw new IllegalStateException("there are 60 words");
        }
        return told.add(0L, paragraph);
    }

    public int version(int document) throws IndexOutOfBoundsException {
        return documentAt(document).version;
    }

    // ---- jobs

    public int quota(int owner, int more) throws IllegalArgumentException, IllegalStateException {
        checkOwner(owner);
        if (!within(more, 1, MOST_GIVEN)) {
            throw new IllegalArgumentException("more");
        }
        if (purse[owner] + more > MOST_LEFT) {
            throw new IllegalStateException("above 1000000");
        }
        purse[owner] += more;
        return purse[owner];
    }

    public int run(int owner, int document, int image)
            throws IllegalArgumentException, IndexOutOfBoundsException, IllegalStateException {
        checkOwner(owner);
        Document text = documentAt(document);
        Image used = imageAt(image);
        checkHeld(used);
        if (jobCount >= JOBS) {
            throw new IllegalStateException("there are 40 jobs");
        }
        Build kept = keptBuild(text, used.files);
        jobs[jobCount] = kept == null ? workedJob(owner, text, used) : new Job(text, used, KEPT, 0, kept);
        jobCount++;
        return jobCount - 1;
    }

    public void write(int job, int layer, int file)
            throws IndexOutOfBoundsException, IllegalArgumentException, IllegalStateException {
        Build written = jobAt(job).build;
        Layer changed = layerAt(layer);
        if (!within(file, FONTS, FILES - 1)) {
            throw new IllegalArgumentException("file");
        }
        if (written == null) {
            throw new IllegalStateException("the job has no build");
        }
        checkOpen(changed);
        changed.files.put(file, Math.min(written.set.pages, MOST_SPACE), written.number % VERSIONS);
    }

    public int job(int job, int what) throws IndexOutOfBoundsException, IllegalArgumentException {
        Job asked = jobAt(job);
        if (!within(what, 0, 6)) {
            throw new IllegalArgumentException("what");
        }
        if (what == 0) {
            return asked.end;
        }
        if (what == 1) {
            return asked.cost;
        }
        return asked.build == null ? NONE : asked.build.tell(what);
    }

    public int line(int job, int line, int what) throws IndexOutOfBoundsException, IllegalArgumentException {
        Build asked = jobAt(job).build;
        checkFromZero(line);
        if (!within(what, 0, 4)) {
            throw new IllegalArgumentException("what");
        }
        return asked == null ? NONE : asked.set.tellOfLine(line, what);
    }

    public int shows(int job, int word) throws IndexOutOfBoundsException {
        Build asked = jobAt(job).build;
        checkFromZero(word);
        return asked == null || word >= asked.set.words ? NONE : asked.set.shown[word];
    }

    public int anew(int job, int line) throws IndexOutOfBoundsException {
        Job asked = jobAt(job);
        checkFromZero(line);
        if (asked.image.times == 0) {
            return NONE;
        }
        press.set(asked.document, asked.image.files);
        return press.sheets.tellOfLine(line, 4);
    }

    public int penalties(int job) throws IndexOutOfBoundsException {
        Build asked = jobAt(job).build;
        return asked == null ? NONE : asked.set.penalties;
    }

    public int differences(int job, int other) throws IndexOutOfBoundsException {
        Build one = jobAt(job).build;
        Build another = jobAt(other).build;
        return one == null || another == null ? NONE : one.set.pagesUnlike(another.set);
    }

    public int left(int owner) throws IllegalArgumentException {
        checkOwner(owner);
        return purse[owner];
    }

    // ---- what the calls look up and refuse

    private static boolean within(int number, int least, int most) {
        return number >= least && number <= most;
    }

    private static void checkOpen(Layer layer) {
        if (layer.state != OPEN) {
            throw new IllegalStateException("the layer is not open");
        }
    }

    private static void checkHeld(Image image) {
        if (image.times == 0) {
            throw new IllegalStateException("the image is gone");
        }
    }

    private static void checkOwner(int owner) {
        if (!within(owner, 0, OWNERS - 1)) {
            throw new IllegalArgumentException("owner");
        }
    }

    private static void checkFromZero(int number) {
        if (number < 0) {
            throw new IndexOutOfBoundsException("below 0");
        }
    }

    private Layer layerAt(int number) {
        Layer found = within(number, 0, LAYERS - 1) ? layers[number] : null;
        if (found == null) {
            throw new IndexOutOfBoundsException("no such layer");
        }
        return found;
    }

    private Image imageAt(int number) {
        Image found = within(number, 0, IMAGES - 1) ? images[number] : null;
        if (found == null) {
            throw new IndexOutOfBoundsException("no such image");
        }
        return found;
    }

    private Document documentAt(int number) {
        Document found = within(number, 0, DOCUMENTS - 1) ? documents[number] : null;
        if (found == null) {
            throw new IndexOutOfBoundsException("no such document");
        }
        return found;
    }

    private Job jobAt(int number) {
        Job found = within(number, 0, JOBS - 1) ? jobs[number] : null;
        if (found == null) {
            throw new IndexOutOfBoundsException("no such job");
        }
        return found;
    }

    // ---- numbers in 8 bits each

    private static int codeAt(long codes, int place) {
        return (int) (codes >>> 8 * place) & 255;
    }

    private static int codesIn(long codes) {
        int count = 0;
        while (count < CODES && codeAt(codes, count) != 0) {
            count++;
        }
        return count;
    }

    /** Whether there are 1 to longest codes, each at most the greatest, and all behind them is 0. */
    private static boolean allCodes(long codes, int greatest, int longest) {
        int count = codesIn(codes);
        if (!within(count, 1, longest)) {
            return false;
        }
        for (int i = 0; i < CODES; i++) {
            if (codeAt(codes, i) > (i < count ? greatest : 0)) {
                return false;
            }
        }
        return true;
    }

    // ---- rows of layers

    private int[] rowOf(long codes) {
        if (!allCodes(codes, layerCount, ROW)) {
            throw new IllegalArgumentException("layers");
        }
        int[] row = new int[codesIn(codes)];
        for (int i = 0; i < row.length; i++) {
            row[i] = codeAt(codes, i) - 1;
        }
        return row;
    }

    private void checkSealed(int[] row) {
        for (int i = 0; i < row.length; i++) {
            if (layerAt(row[i]).state != SEALED) {
                throw new IllegalStateException("a layer is not sealed, or gone");
            }
        }
    }

    private Image heldAlike(int[] row) {
        for (int i = 0; i < images.length; i++) {
            Image image = images[i];
            if (image != null && image.times > 0 && rowsAlike(image.row, row)) {
                return image;
            }
        }
        return null;
    }

    private boolean rowsAlike(int[] one, int[] other) {
        if (one.length != other.length) {
            return false;
        }
        for (int i = 0; i < one.length; i++) {
            if (!layerAt(one[i]).files.sameAs(layerAt(other[i]).files)) {
                return false;
            }
        }
        return true;
    }

    private Files stack(int[] row) {
        Files seen = new Files();
        for (int i = 0; i < row.length; i++) {
            seen.layOver(layerAt(row[i]).files);
        }
        return seen;
    }

    private int holders(int layer) {
        int count = 0;
        for (int i = 0; i < images.length; i++) {
            Image image = images[i];
            if (image != null && image.times > 0 && image.holds(layer)) {
                count++;
            }
        }
        return count;
    }

    private int letGo(int[] row) {
        int gone = 0;
        for (int i = 0; i < row.length; i++) {
            Layer layer = layerAt(row[i]);
            // A layer may stand in the row twice: it goes once.
            if (layer.state == SEALED && holders(row[i]) == 0) {
                layer.state = GONE;
                gone++;
            }
        }
        return gone;
    }

    // ---- builds

    /** Each build is that of the job that made it: the first job that fits has the first build. */
    private Build keptBuild(Document document, Files files) {
        for (int i = 0; i < jobs.length; i++) {
            Build build = jobs[i] == null ? null : jobs[i].build;
            if (build != null && build.serves(document, files)) {
                return build;
            }
        }
        return null;
    }

    private Job workedJob(int owner, Document document, Image image) {
        press.set(document, image.files);
        int cost = press.sheets.cost();
        if (cost > purse[owner]) {
            int rest = purse[owner];
            purse[owner] = 0;
            return new Job(document, image, STOPPED, rest, null);
        }
        purse[owner] -= cost;
        Build build = new Build(buildCount, document, image.files, press.handOut());
        buildCount++;
        return new Job(document, image, RAN, cost, build);
    }

    /** What a layer or an image has of each file. */
    private static final class Files {
        static final int NOTHING = 0, HAD = 1, HIDDEN = 2;

        final int[] kind = new int[FILES];
        /** The width of a font, the space of a package. */
        final int[] size = new int[FILES];
        /** The cover of a font, the version of a package. */
        final int[] detail = new int[FILES];

        boolean has(int file) {
            return kind[file] == HAD;
        }

        void put(int file, int newSize, int newDetail) {
            become(file, HAD, newSize, newDetail);
        }

        void conceal(int file) {
            become(file, HIDDEN, 0, 0);
        }

        void become(int file, int newKind, int newSize, int newDetail) {
            kind[file] = newKind;
            size[file] = newSize;
            detail[file] = newDetail;
        }

        /** What the upper one hides is nothing from here on, as what no layer has. */
        void layOver(Files upper) {
            for (int file = 0; file < FILES; file++) {
                if (upper.kind[file] == HAD) {
                    put(file, upper.size[file], upper.detail[file]);
                } else if (upper.kind[file] == HIDDEN) {
                    become(file, NOTHING, 0, 0);
                }
            }
        }

        boolean sameAs(Files other) {
            return sameIn(other, (1 << FILES) - 1);
        }

        /** Whether both have the same for each file of the set. */
        boolean sameIn(Files other, int set) {
            for (int file = 0; file < FILES; file++) {
                boolean same = kind[file] == other.kind[file] && size[file] == other.size[file]
                        && detail[file] == other.detail[file];
                if (!same && (set >> file & 1) != 0) {
                    return false;
                }
            }
            return true;
        }
    }

    private static final class Layer {
        final Files files = new Files();
        int state = OPEN;
    }

    private static final class Image {
        final int number;
        /** The numbers of its layers, from the lowest one on. */
        final int[] row;
        final Files files;
        /** How often it is held; gone with 0. */
        int times = 1;

        Image(int number, int[] row, Files files) {
            this.number = number;
            this.row = row;
            this.files = files;
        }

        boolean holds(int layer) {
            for (int i = 0; i < row.length; i++) {
                if (row[i] == layer) {
                    return true;
                }
            }
            return false;
        }
    }

    private static final class Document {
        final int measure, height;
        /** Of each style. */
        final int[] fonts = new int[STYLES];
        /** Of each paragraph. */
        final int[] styles = new int[PARAGRAPHS];
        /** Of each word: its paragraph, its letters, and the paragraph that it refers to, or NONE. */
        final int[] home = new int[WORDS];
        final long[] letters = new long[WORDS];
        final int[] target = new int[WORDS];
        /** Bit f for the package f. */
        int included;
        int paragraphs, words, version;

        Document(int measure, int height) {
            this.measure = measure;
            this.height = height;
            for (int style = 0; style < STYLES; style++) {
                fonts[style] = style;
            }
        }

        /** Adds a word, for which there must be a place, to the last paragraph. */
        int add(long newLetters, int newTarget) {
            home[words] = paragraphs - 1;
            letters[words] = newLetters;
            target[words] = newTarget;
            words++;
            version++;
            return words - 1;
        }
    }

    private static final class Job {
        final Document document;
        final Image image;
        final int end, cost;
        /** null, if it was stopped. */
        final Build build;

        Job(Document document, Image image, int end, int cost, Build build) {
            this.document = document;
            this.image = image;
            this.end = end;
            this.cost = cost;
            this.build = build;
        }
    }

    private static final class Build {
        final int number, version;
        final Document document;
        /** Those of the image, which never change, since all its layers are sealed. */
        final Files files;
        final Sheets set;

        Build(int number, Document document, Files files, Sheets set) {
            this.number = number;
            this.document = document;
            this.version = document.version;
            this.files = files;
            this.set = set;
        }

        boolean serves(Document other, Files otherFiles) {
            return document == other && version == other.version && files.sameIn(otherFiles, set.reads);
        }

        int tell(int what) {
            switch (what) {
                case 2:
                    return number;
                case 3:
                    return set.pages;
                case 4:
                    return set.lines;
                case 5:
                    return set.passes;
                case 6:
                    return set.reads;
                default:
                    return NONE;
            }
        }
    }

    /** The lines and pages of a document that has been set. */
    private static final class Sheets {
        static final int COST_OF_PASS = 5;

        int words, lines, pages, passes, penalties;
        /** Bit f for each file that was read. */
        int reads;
        /** Of each word: the page that it shows, NONE if it is no reference. */
        final int[] shown = new int[WORDS];
        /** Of each line: its paragraph, its first and last words, its width and its page. */
        final int[] home = new int[WORDS];
        final int[] first = new int[WORDS];
        final int[] last = new int[WORDS];
        final int[] width = new int[WORDS];
        final int[] page = new int[WORDS];

        int cost() {
            return passes * (COST_OF_PASS + lines);
        }

        int tellOfLine(int line, int what) {
            if (line >= lines) {
                return NONE;
            }
            switch (what) {
                case 0:
                    return home[line];
                case 1:
                    return first[line];
                case 2:
                    return last[line];
                case 3:
                    return width[line];
                case 4:
                    return page[line];
                default:
                    return NONE;
            }
        }

        boolean opensParagraph(int line) {
            return line == 0 || home[line - 1] != home[line];
        }

        boolean closesParagraph(int line) {
            return line == lines - 1 || home[line + 1] != home[line];
        }

        int pagesUnlike(Sheets other) {
            int unlike = 0;
            int mine = 0;
            int others = 0;
            for (int number = 0; number < pages || number < other.pages; number++) {
                int myEnd = endOfPage(number, mine);
                int othersEnd = other.endOfPage(number, others);
                if (!sameLines(mine, myEnd, other, others, othersEnd)) {
                    unlike++;
                }
                mine = myEnd;
                others = othersEnd;
            }
            return unlike;
        }

        /** The line behind those of a page that begins with a line, this line if there is no such page. */
        int endOfPage(int number, int begin) {
            int end = begin;
            while (end < lines && page[end] == number) {
                end++;
            }
            return end;
        }

        boolean sameLines(int begin, int end, Sheets other, int otherBegin, int otherEnd) {
            if (end - begin != otherEnd - otherBegin) {
                return false;
            }
            for (int i = begin; i < end; i++) {
                int k = otherBegin + i - begin;
                if (home[i] != other.home[k] || first[i] != other.first[k] || last[i] != other.last[k]) {
                    return false;
                }
            }
            return true;
        }
    }

    /** Sets documents, with rows that are used again for each. */
    private static final class Press {
        static final int MOST_PASSES = 5, BLANK = 4, FIGURE = 6, BARE_LETTER = 10;
        static final int FIRST_LINE_ALONE = 7, LAST_LINE_ALONE = 10;

        Sheets sheets = new Sheets();
        /** Of each word that is no reference. */
        final int[] wordWidth = new int[WORDS];
        final int[] lineHeight = new int[WORDS];
        /** Of each line: the penalty of a border ahead of it. */
        final int[] border = new int[WORDS];
        /** Of each line, if a page begins there: the least penalties from there on, and the line behind the page. */
        final int[] least = new int[WORDS + 1];
        final int[] pageEnd = new int[WORDS];
        /** The page, from 1 on, that each paragraph begins on. */
        final int[] begins = new int[PARAGRAPHS];

        /** Gives the sheets to a build that keeps them: what is set next is set on others. */
        Sheets handOut() {
            Sheets kept = sheets;
            sheets = new Sheets();
            return kept;
        }

        void set(Document document, Files files) {
            sheets.reads = document.included;
            sheets.words = document.words;
            measureWords(document, files);
            int space = spaceBehind(document, files);
            sheets.passes = 0;
            do {
                sheets.passes++;
                breakLines(document);
                weighLines(space);
                breakPages(document.height);
            } while (sheets.passes < MOST_PASSES && renewReferences(document));
        }

        /** Measures the words of letters; the references show 1. */
        void measureWords(Document document, Files files) {
            for (int word = 0; word < document.words; word++) {
                boolean refers = document.target[word] != NONE;
                sheets.shown[word] = refers ? 1 : NONE;
                int font = document.fonts[document.styles[document.home[word]]];
                wordWidth[word] = refers ? 0 : widthOf(document.letters[word], font, files);
            }
        }

        int widthOf(long letters, int font, Files files) {
            int count = codesIn(letters);
            int width = 0;
            for (int i = 0; i < count; i++) {
                width += letterWidth(codeAt(letters, i) - 1, font, files);
            }
            return width;
        }

        int letterWidth(int letter, int font, Files files) {
            for (int i = 0; i < FONTS; i++) {
                int tried = (font + i) % FONTS;
                sheets.reads |= 1 << tried;
                if (files.has(tried) && (files.detail[tried] >> letter & 1) != 0) {
                    return files.size[tried];
                }
            }
            return BARE_LETTER;
        }

        int spaceBehind(Document document, Files files) {
            int space = 0;
            for (int file = FONTS; file < FILES; file++) {
                if ((document.included >> file & 1) != 0 && files.has(file)) {
                    space += files.size[file];
                }
            }
            return space;
        }

        void breakLines(Document document) {
            sheets.lines = 0;
            for (int word = 0; word < document.words; word++) {
                int home = document.home[word];
                int width = sheets.shown[word] == NONE ? wordWidth[word] : figures(sheets.shown[word]) * FIGURE;
                int line = sheets.lines - 1;
                if (line >= 0 && sheets.home[line] == home && sheets.width[line] + BLANK + width <= document.measure) {
                    sheets.width[line] += BLANK + width;
                    sheets.last[line] = word;
                } else {
                    beginLine(home, word, width);
                }
            }
        }

        void beginLine(int home, int word, int width) {
            int line = sheets.lines;
            sheets.home[line] = home;
            sheets.first[line] = word;
            sheets.last[line] = word;
            sheets.width[line] = width;
            sheets.lines++;
        }

        /** There are no more pages than words, so that two figures are the most. */
        int figures(int page) {
            return page < 10 ? 1 : 2;
        }

        void weighLines(int space) {
            for (int line = 0; line < sheets.lines; line++) {
                lineHeight[line] = sheets.closesParagraph(line) ? 1 + space : 1;
                border[line] = line == 0 ? 0 : borderPenalty(line);
            }
        }

        int borderPenalty(int behind) {
            int ahead = behind - 1;
            int penalty = 0;
            if (sheets.opensParagraph(ahead) && !sheets.closesParagraph(ahead)) {
                penalty += FIRST_LINE_ALONE;
            }
            if (sheets.closesParagraph(behind) && !sheets.opensParagraph(behind)) {
                penalty += LAST_LINE_ALONE;
            }
            return penalty;
        }

        void breakPages(int height) {
            least[sheets.lines] = 0;
            for (int line = sheets.lines - 1; line >= 0; line--) {
                choosePage(line, height);
            }
            sheets.penalties = least[0];
            numberPages();
        }

        /** Of ways that cost the same, the later one, with more lines, is taken. */
        void choosePage(int begin, int height) {
            int filled = lineHeight[begin];
            least[begin] = penaltiesWith(begin + 1, height - filled);
            pageEnd[begin] = begin + 1;
            for (int end = begin + 2; end <= sheets.lines; end++) {
                filled += lineHeight[end - 1];
                if (filled > height) {
                    return;
                }
                int sum = penaltiesWith(end, height - filled);
                if (sum <= least[begin]) {
                    least[begin] = sum;
                    pageEnd[begin] = end;
                }
            }
        }

        /** Those of a page that ends ahead of a line, and of all behind it. */
        int penaltiesWith(int end, int missing) {
            if (end >= sheets.lines) {
                return 0;
            }
            int gap = Math.max(missing, 0);
            return gap * gap + border[end] + least[end];
        }

        void numberPages() {
            int end = 0;
            sheets.pages = 0;
            for (int line = 0; line < sheets.lines; line++) {
                if (line == end) {
                    end = pageEnd[line];
                    sheets.pages++;
                }
                sheets.page[line] = sheets.pages - 1;
            }
        }

        /** Lets the references show where their paragraphs begin now; whether one shows something else by that. */
        boolean renewReferences(Document document) {
            findBegins();
            boolean renewed = false;
            for (int word = 0; word < document.words; word++) {
                int target = document.target[word];
                if (target != NONE && sheets.shown[word] != begins[target]) {
                    sheets.shown[word] = begins[target];
                    renewed = true;
                }
            }
            return renewed;
        }

        void findBegins() {
            for (int paragraph = 0; paragraph < PARAGRAPHS; paragraph++) {
                begins[paragraph] = 1;
            }
            for (int line = sheets.lines - 1; line >= 0; line--) {
                begins[sheets.home[line]] = sheets.page[line] + 1;
            }
        }
    }
}
