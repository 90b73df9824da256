import java.util.ArrayList;
import java.util.Arrays;
import java.util.HashMap;
import java.util.List;
import java.util.Map;
import java.util.TreeMap;
import java.util.TreeSet;

/** The document told once more, as plainly as lists and maps allow, for the runs of ModelTest. */
final class Model {
    /** What a layer does not have is not in the map; what it hides is an empty list. */
    static final class Layer {
        final Map<Integer, List<Integer>> files = new TreeMap<>();
        int state;
    }

    static final class Image {
        List<Integer> row;
        Map<Integer, List<Integer>> files = new TreeMap<>();
        int held = 1;
    }

    static final class Word {
        int paragraph;
        List<Integer> letters = new ArrayList<>();
        Integer target;
    }

    static final class Document {
        int measure, height, version;
        final int[] fonts = {0, 1, 2, 3};
        final TreeSet<Integer> included = new TreeSet<>();
        final List<Integer> styles = new ArrayList<>();
        final List<Word> words = new ArrayList<>();
    }

    static final class Line {
        int paragraph, first, last, width, page;
    }

    static final class Work {
        final List<Line> lines = new ArrayList<>();
        List<Integer> pageSizes = new ArrayList<>();
        int passes, penalties;
        final TreeSet<Integer> read = new TreeSet<>();
        int[] shown;
        boolean settled;
    }

    static final class Build {
        int document, version;
        Map<Integer, List<Integer>> asRead = new TreeMap<>();
        Work work;
    }

    static final class Job {
        int document, image, end, cost;
        int build = -1;
    }

    /** Of the lines from one on: the sum of penalties, and the sizes of the pages. */
    static final class Way {
        int sum;
        List<Integer> sizes = new ArrayList<>();
    }

    final List<Layer> layers = new ArrayList<>();
    final List<Image> images = new ArrayList<>();
    final List<Document> documents = new ArrayList<>();
    final List<Job> jobs = new ArrayList<>();
    final List<Build> builds = new ArrayList<>();
    final int[] left = new int[4];

    static RuntimeException none() {
        return new IndexOutOfBoundsException();
    }

    static RuntimeException range() {
        return new IllegalArgumentException();
    }

    static RuntimeException state() {
        return new IllegalStateException();
    }

    static <T> T of(List<T> all, int number) {
        if (number < 0 || number >= all.size()) {
            throw none();
        }
        return all.get(number);
    }

    static void in(int number, int from, int to) {
        if (number < from || number > to) {
            throw range();
        }
    }

    static List<Integer> bytes(long codes) {
        List<Integer> all = new ArrayList<>();
        for (int i = 0; i < 8; i++) {
            all.add((int) (codes >> (8 * i) & 0xff));
        }
        while (!all.isEmpty() && all.get(all.size() - 1) == 0) {
            all.remove(all.size() - 1);
        }
        return all;
    }

    long layer() {
        if (layers.size() == 24) {
            throw state();
        }
        layers.add(new Layer());
        return layers.size() - 1;
    }

    void put(Layer layer, int file, Integer... what) {
        if (layer.state != 0) {
            throw state();
        }
        layer.files.put(file, Arrays.asList(what));
    }

    long font(int layer, int file, int width, int cover) {
        Layer l = of(layers, layer);
        in(file, 0, 4);
        in(width, 1, 20);
        in(cover, 0, 67108863);
        put(l, file, width, cover);
        return 0;
    }

    long pack(int layer, int file, int space, int version) {
        Layer l = of(layers, layer);
        in(file, 5, 9);
        in(space, 0, 3);
        in(version, 0, 9);
        put(l, file, space, version);
        return 0;
    }

    long hide(int layer, int file) {
        Layer l = of(layers, layer);
        in(file, 0, 9);
        put(l, file);
        return 0;
    }

    long seal(int layer) {
        Layer l = of(layers, layer);
        if (l.state != 0) {
            throw state();
        }
        l.state = 1;
        for (int i = 0; i < layers.size(); i++) {
            if (i != layer && layers.get(i).state == 1 && layers.get(i).files.equals(l.files)) {
                return i;
            }
        }
        return -1;
    }

    List<Map<Integer, List<Integer>>> contents(List<Integer> row) {
        List<Map<Integer, List<Integer>>> all = new ArrayList<>();
        for (int number : row) {
            all.add(layers.get(number).files);
        }
        return all;
    }

    long image(long codes) {
        List<Integer> row = new ArrayList<>();
        for (int code : bytes(codes)) {
            in(code, 1, layers.size());
            row.add(code - 1);
        }
        in(row.size(), 1, 6);
        for (int number : row) {
            if (layers.get(number).state != 1) {
                throw state();
            }
        }
        for (int i = 0; i < images.size(); i++) {
            if (images.get(i).held > 0 && contents(images.get(i).row).equals(contents(row))) {
                images.get(i).held++;
                return i;
            }
        }
        if (images.size() == 12) {
            throw state();
        }
        Image made = new Image();
        made.row = row;
        for (int file = 0; file < 10; file++) {
            for (int place = row.size() - 1; place >= 0; place--) {
                List<Integer> has = layers.get(row.get(place)).files.get(file);
                if (has != null) {
                    if (!has.isEmpty()) {
                        made.files.put(file, has);
                    }
                    break;
                }
            }
        }
        images.add(made);
        return images.size() - 1;
    }

    long holders(int layer) {
        return images.stream().filter(i -> i.held > 0 && i.row.contains(layer)).count();
    }

    long drop(int image) {
        Image i = of(images, image);
        if (i.held == 0) {
            throw state();
        }
        i.held--;
        long gone = 0;
        if (i.held == 0) {
            for (int number : new TreeSet<>(i.row)) {
                if (holders(number) == 0) {
                    layers.get(number).state = 2;
                    gone++;
                }
            }
        }
        return gone;
    }

    long ofLayer(int layer, int what) {
        Layer l = of(layers, layer);
        in(what, 0, 1);
        return what == 0 ? l.state : holders(layer);
    }

    long file(int image, int file, int what) {
        Image i = of(images, image);
        in(file, 0, 9);
        in(what, 0, 1);
        if (i.held == 0) {
            throw state();
        }
        return i.files.containsKey(file) ? i.files.get(file).get(what) : -1;
    }

    long document(int measure, int height) {
        in(measure, 20, 200);
        in(height, 3, 12);
        if (documents.size() == 6) {
            throw state();
        }
        Document made = new Document();
        made.measure = measure;
        made.height = height;
        documents.add(made);
        return documents.size() - 1;
    }

    long style(int document, int style, int font) {
        Document d = of(documents, document);
        in(style, 0, 3);
        in(font, 0, 4);
        int before = d.fonts[style];
        d.fonts[style] = font;
        d.version++;
        return before;
    }

    long include(int document, int file, boolean is) {
        Document d = of(documents, document);
        in(file, 5, 9);
        d.version++;
        return (is ? !d.included.add(file) : d.included.remove(file)) ? 1 : 0;
    }

    long paragraph(int document, int style) {
        Document d = of(documents, document);
        in(style, 0, 3);
        if (d.styles.size() == 12) {
            throw state();
        }
        d.styles.add(style);
        d.version++;
        return d.styles.size() - 1;
    }

    long word(int document, long codes) {
        Document d = of(documents, document);
        Word made = new Word();
        for (int code : bytes(codes)) {
            in(code, 1, 26);
            made.letters.add(code - 1);
        }
        in(made.letters.size(), 1, 8);
        if (d.styles.isEmpty() || d.words.size() == 60) {
            throw state();
        }
        made.paragraph = d.styles.size() - 1;
        d.words.add(made);
        d.version++;
        return d.words.size() - 1;
    }

    long reference(int document, int paragraph) {
        Document d = of(documents, document);
        of(d.styles, paragraph);
        if (d.words.size() == 60) {
            throw state();
        }
        Word made = new Word();
        made.target = paragraph;
        made.paragraph = d.styles.size() - 1;
        d.words.add(made);
        d.version++;
        return d.words.size() - 1;
    }

    long version(int document) {
        return of(documents, document).version;
    }

    long quota(int owner, int more) {
        in(owner, 0, 3);
        in(more, 1, 10000);
        if (left[owner] + more > 1000000) {
            throw state();
        }
        return left[owner] += more;
    }

    long run(int owner, int document, int image) {
        in(owner, 0, 3);
        Document d = of(documents, document);
        Image i = of(images, image);
        if (i.held == 0 || jobs.size() == 40) {
            throw state();
        }
        Job made = new Job();
        made.document = document;
        made.image = image;
        made.end = 1;
        for (int b = 0; b < builds.size() && made.build < 0; b++) {
            Build build = builds.get(b);
            if (build.document == document && build.version == d.version
                    && build.asRead.equals(readOf(i, build.work.read))) {
                made.build = b;
            }
        }
        if (made.build < 0) {
            work(made, owner, d, i);
        }
        jobs.add(made);
        return jobs.size() - 1;
    }

    static Map<Integer, List<Integer>> readOf(Image image, TreeSet<Integer> read) {
        Map<Integer, List<Integer>> all = new HashMap<>();
        for (int file : read) {
            all.put(file, image.files.getOrDefault(file, new ArrayList<>()));
        }
        return all;
    }

    void work(Job job, int owner, Document d, Image i) {
        Work work = typeset(d, i);
        int cost = work.passes * (5 + work.lines.size());
        job.cost = Math.min(cost, left[owner]);
        left[owner] -= job.cost;
        if (job.cost < cost) {
            job.end = 2;
            return;
        }
        job.end = 0;
        job.build = builds.size();
        Build build = new Build();
        build.document = job.document;
        build.version = d.version;
        build.work = work;
        build.asRead = readOf(i, work.read);
        builds.add(build);
    }

    static Work typeset(Document d, Image i) {
        Work work = new Work();
        work.read.addAll(d.included);
        int space = 0;
        for (int file : d.included) {
            space += i.files.containsKey(file) ? i.files.get(file).get(0) : 0;
        }
        work.shown = new int[d.words.size()];
        for (int w = 0; w < work.shown.length; w++) {
            work.shown[w] = d.words.get(w).target == null ? -1 : 1;
        }
        for (work.passes = 1; ; work.passes++) {
            pass(d, i, space, work);
            int[] next = work.shown.clone();
            for (int w = 0; w < next.length; w++) {
                Integer target = d.words.get(w).target;
                if (target != null) {
                    next[w] = work.lines.stream().filter(l -> l.paragraph == target).findFirst().map(l -> l.page + 1)
                            .orElse(1);
                }
            }
            work.settled = Arrays.equals(next, work.shown);
            if (work.settled || work.passes == 5) {
                return work;
            }
            work.shown = next;
        }
    }

    static void pass(Document d, Image i, int space, Work work) {
        work.lines.clear();
        Line open = null;
        for (int w = 0; w < d.words.size(); w++) {
            Word word = d.words.get(w);
            int width = word.target != null ? 6 * String.valueOf(work.shown[w]).length() : widthOf(d, i, word, work);
            if (open == null || open.paragraph != word.paragraph || open.width + 4 + width > d.measure) {
                open = new Line();
                open.paragraph = word.paragraph;
                open.first = w;
                open.width = width;
                work.lines.add(open);
            } else {
                open.width += 4 + width;
            }
            open.last = w;
        }
        Way best = new Way();
        Way[] ways = new Way[work.lines.size() + 1];
        ways[work.lines.size()] = best;
        for (int from = work.lines.size() - 1; from >= 0; from--) {
            best = null;
            for (int to = from + 1; to <= work.lines.size(); to++) {
                best = better(best, wayWith(work.lines, from, to, space, d.height, ways[to]));
            }
            ways[from] = best;
        }
        work.penalties = best.sum;
        work.pageSizes = best.sizes;
        int line = 0;
        for (int page = 0; page < best.sizes.size(); page++) {
            for (int k = 0; k < best.sizes.get(page); k++) {
                work.lines.get(line++).page = page;
            }
        }
    }

    static int widthOf(Document d, Image i, Word word, Work work) {
        int width = 0;
        for (int letter : word.letters) {
            int found = 10;
            for (int k = 0; k < 5; k++) {
                int font = (d.fonts[d.styles.get(word.paragraph)] + k) % 5;
                work.read.add(font);
                List<Integer> has = i.files.get(font);
                if (has != null && (has.get(1) & 1 << letter) != 0) {
                    found = has.get(0);
                    break;
                }
            }
            width += found;
        }
        return width;
    }

    static Way better(Way one, Way other) {
        if (one == null || other == null) {
            return one == null ? other : one;
        }
        if (one.sum != other.sum) {
            return one.sum < other.sum ? one : other;
        }
        for (int k = 0; k < one.sizes.size() && k < other.sizes.size(); k++) {
            int more = one.sizes.get(k) - other.sizes.get(k);
            if (more != 0) {
                return more > 0 ? one : other;
            }
        }
        return one;
    }

    /** The way with a page of the lines from one to ahead of another; null if they are too high for it. */
    static Way wayWith(List<Line> lines, int from, int to, int space, int height, Way rest) {
        int high = 0;
        for (int l = from; l < to; l++) {
            high += 1 + (ends(lines, l) ? space : 0);
        }
        if (high > height && to - from > 1) {
            return null;
        }
        Way way = new Way();
        way.sizes.add(to - from);
        way.sizes.addAll(rest.sizes);
        if (to < lines.size()) {
            way.sum = rest.sum + (high > height ? 0 : (height - high) * (height - high));
            way.sum += begins(lines, to - 1) && linesOf(lines, to - 1) > 1 ? 7 : 0;
            way.sum += ends(lines, to) && linesOf(lines, to) > 1 ? 10 : 0;
        }
        return way;
    }

    static boolean begins(List<Line> lines, int l) {
        return l == 0 || lines.get(l - 1).paragraph < lines.get(l).paragraph;
    }

    static boolean ends(List<Line> lines, int l) {
        return l + 1 == lines.size() || lines.get(l + 1).paragraph > lines.get(l).paragraph;
    }

    static long linesOf(List<Line> lines, int l) {
        return lines.stream().filter(x -> x.paragraph == lines.get(l).paragraph).count();
    }

    long write(int job, int layer, int file) {
        Job j = of(jobs, job);
        Layer l = of(layers, layer);
        in(file, 5, 9);
        if (j.build < 0) {
            throw state();
        }
        put(l, file, Math.min(3, builds.get(j.build).work.pageSizes.size()), j.build % 10);
        return 0;
    }

    Work workOf(Job job) {
        return job.build < 0 ? null : builds.get(job.build).work;
    }

    long job(int job, int what) {
        Job j = of(jobs, job);
        in(what, 0, 6);
        Work work = workOf(j);
        if (what < 2) {
            return what == 0 ? j.end : j.cost;
        }
        if (work == null) {
            return -1;
        }
        int set = 0;
        for (int file : work.read) {
            set += 1 << file;
        }
        return new int[] {j.build, work.pageSizes.size(), work.lines.size(), work.passes, set}[what - 2];
    }

    long line(int job, int line, int what) {
        Job j = of(jobs, job);
        if (line < 0) {
            throw none();
        }
        in(what, 0, 4);
        Work work = workOf(j);
        if (work == null || line >= work.lines.size()) {
            return -1;
        }
        Line l = work.lines.get(line);
        return new int[] {l.paragraph, l.first, l.last, l.width, l.page}[what];
    }

    long shows(int job, int word) {
        Job j = of(jobs, job);
        if (word < 0) {
            throw none();
        }
        Work work = workOf(j);
        return work == null || word >= work.shown.length ? -1 : work.shown[word];
    }

    long anew(int job, int line) {
        Job j = of(jobs, job);
        if (line < 0) {
            throw none();
        }
        if (images.get(j.image).held == 0) {
            return -1;
        }
        Work work = typeset(documents.get(j.document), images.get(j.image));
        return line >= work.lines.size() ? -1 : work.lines.get(line).page;
    }

    long penalties(int job) {
        Work work = workOf(of(jobs, job));
        return work == null ? -1 : work.penalties;
    }

    static Map<Integer, String> pages(Work work) {
        Map<Integer, String> all = new HashMap<>();
        for (Line l : work.lines) {
            all.merge(l.page, l.paragraph + " " + l.first + " " + l.last + ";", String::concat);
        }
        return all;
    }

    long differences(int job, int other) {
        Work one = workOf(of(jobs, job));
        Work two = workOf(of(jobs, other));
        if (one == null || two == null) {
            return -1;
        }
        Map<Integer, String> mine = pages(one);
        Map<Integer, String> others = pages(two);
        long unlike = 0;
        for (int page = 0; page < Math.max(mine.size(), others.size()); page++) {
            if (!mine.getOrDefault(page, "").equals(others.getOrDefault(page, ""))) {
                unlike++;
            }
        }
        return unlike;
    }

    long left(int owner) {
        in(owner, 0, 3);
        return left[owner];
    }
}
