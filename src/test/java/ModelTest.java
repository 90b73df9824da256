import java.util.ArrayList;
import java.util.Arrays;
import java.util.List;

/** Runs of calls that are drawn by a fixed rule, each answered alike by PressBox and by Model. */
public final class ModelTest {
    private static final String[] NAMES = {"layer", "font", "pack", "hide", "seal", "image", "drop", "ofLayer", "file",
        "document", "style", "include", "paragraph", "word", "reference", "version", "quota", "run", "write", "job",
        "line", "shows", "anew", "penalties", "differences", "left"};
    private static final int[] OFTEN = {6, 6, 4, 4, 8, 8, 3, 3, 3, 2, 3, 3, 6, 40, 14, 2, 6, 16, 5, 10, 14, 8, 8, 4,
        8, 3};

    private long seed;
    private boolean wild;
    private int wideLetters;

    public static void main(String[] args) {
        int runs = args.length > 0 ? Integer.parseInt(args[0]) : 4000;
        int[] seen = new int[8];
        for (int run = 1; run <= runs; run++) {
            new ModelTest(run).compare(run, seen);
        }
        for (int passes = 1; passes <= 3; passes++) {
            Check.same("some job of " + passes + " passes", seen[passes] > 0, true);
        }
        System.out.println("builds by passes 1 to 5: " + Arrays.toString(Arrays.copyOfRange(seen, 1, 6))
            + ", not settled: " + seen[6] + ", kept: " + seen[7]);
        Check.end("ModelTest");
    }

    private ModelTest(long run) {
        seed = run * 0x9E3779B97F4A7C15L;
        wild = draw(4) == 0;
        wideLetters = draw(3);
    }

    private int draw(int bound) {
        seed = seed * 6364136223846793005L + 1442695040888963407L;
        return (int) ((seed >>> 33) % bound);
    }

    private void compare(int run, int[] seen) {
        PressBox box = new PressBox();
        Model model = new Model();
        List<String> told = new ArrayList<>();
        for (int call = 0; call < 512; call++) {
            int which = drawCall();
            long[] a = arguments(which, model);
            String got = answer(true, box, model, which, a);
            String want = answer(false, box, model, which, a);
            told.add(NAMES[which] + Arrays.toString(a) + " = " + want);
            if (!got.equals(want)) {
                told.forEach(System.out::println);
                Check.same("run " + run + ": " + got + " but " + want, 1, 0);
                return;
            }
        }
        for (Model.Build build : model.builds) {
            seen[build.work.passes]++;
            seen[6] += build.work.settled ? 0 : 1;
        }
        for (Model.Job job : model.jobs) {
            seen[7] += job.end == PressBox.KEPT ? 1 : 0;
        }
    }

    private int drawCall() {
        int sum = 0;
        for (int often : OFTEN) {
            sum += often;
        }
        int drawn = draw(sum);
        int which = 0;
        while (drawn >= OFTEN[which]) {
            drawn -= OFTEN[which];
            which++;
        }
        return which;
    }

    /** A number from one to another, now and then a bit beside them or far off. */
    private int number(int from, int to) {
        if (draw(wild ? 12 : 150) == 0) {
            int[] off = {from - 1, to + 1, Integer.MIN_VALUE, Integer.MAX_VALUE, -1, to + 2};
            return off[draw(off.length)];
        }
        return to < from ? from : from + draw(to - from + 1);
    }

    private int one(List<?> all) {
        return number(0, all.size() - 1);
    }

    private int lateOne(List<?> all) {
        return number(Math.max(0, all.size() - 3), all.size() - 1);
    }

    private long codes(int most, int count) {
        if (draw(wild ? 12 : 150) == 0) {
            long[] off = {0, -1, Long.MIN_VALUE, 1L << 8, 1L | 1L << 16, 1L | 1L << 56, most + 1, 255, 1L << 32 | 1};
            return off[draw(off.length)];
        }
        long codes = 0;
        for (int i = 0; i < count; i++) {
            codes |= (long) (1 + draw(Math.max(1, most))) << 8 * i;
        }
        return codes;
    }

    private long[] arguments(int which, Model m) {
        int document = m.documents.size() > 2 && draw(3) > 0 ? number(0, 1) : one(m.documents);
        switch (NAMES[which]) {
            case "font":
                return new long[] {lateOne(m.layers), number(0, 4), wideLetters == 0 ? number(1, 3) : number(1, 20),
                    draw(2) == 0 ? 67108863 : number(0, 67108863)};
            case "pack":
                return new long[] {lateOne(m.layers), number(5, 9), number(0, 3), number(0, draw(3) == 0 ? 9 : 1)};
            case "hide":
                return new long[] {lateOne(m.layers), number(0, 9)};
            case "seal":
                return new long[] {lateOne(m.layers)};
            case "image":
                return new long[] {codes(m.layers.size(), 1 + draw(draw(9) == 0 ? 7 : 3))};
            case "drop":
                return new long[] {one(m.images)};
            case "ofLayer":
                return new long[] {one(m.layers), number(0, 1)};
            case "file":
                return new long[] {one(m.images), number(0, 9), number(0, 1)};
            case "document":
                return new long[] {draw(2) == 0 ? number(20, 30) : number(20, 200), number(3, draw(2) == 0 ? 4 : 12)};
            case "style":
                return new long[] {document, number(0, 3), number(0, 4)};
            case "include":
                return new long[] {document, number(5, 9), draw(2)};
            case "paragraph":
                return new long[] {document, number(0, 3)};
            case "word":
                return new long[] {document, codes(26, 1 + draw(8))};
            case "reference":
                return new long[] {document, document < 0 || document >= m.documents.size() ? 0
                    : one(m.documents.get(document).styles)};
            case "version":
                return new long[] {document};
            case "quota":
                return new long[] {number(0, 3), number(1, draw(2) == 0 ? 100 : 10000)};
            case "run":
                return new long[] {number(0, 3), document, one(m.images)};
            case "write":
                return new long[] {one(m.jobs), lateOne(m.layers), number(5, 9)};
            case "job":
                return new long[] {one(m.jobs), number(0, 6)};
            case "line":
                return new long[] {one(m.jobs), number(0, 30), number(0, 4)};
            case "shows":
                return new long[] {one(m.jobs), number(0, 60)};
            case "anew":
                return new long[] {one(m.jobs), number(0, 30)};
            case "penalties":
                return new long[] {one(m.jobs)};
            case "differences":
                return new long[] {one(m.jobs), one(m.jobs)};
            case "left":
                return new long[] {number(0, 3)};
            default:
                return new long[0];
        }
    }

    private static String answer(boolean ofBox, PressBox box, Model model, int which, long[] a) {
        int[] n = new int[4];
        for (int i = 0; i < a.length; i++) {
            n[i] = (int) a[i];
        }
        try {
            return String.valueOf(ofBox ? ofBox(box, which, n, a) : ofModel(model, which, n, a));
        } catch (RuntimeException e) {
            return e.getClass().getName();
        }
    }

    private static long ofBox(PressBox x, int which, int[] n, long[] a) {
        switch (NAMES[which]) {
            case "layer": return x.layer();
            case "font": x.font(n[0], n[1], n[2], n[3]); return 0;
            case "pack": x.pack(n[0], n[1], n[2], n[3]); return 0;
            case "hide": x.hide(n[0], n[1]); return 0;
            case "seal": return x.seal(n[0]);
            case "image": return x.image(a[0]);
            case "drop": return x.drop(n[0]);
            case "ofLayer": return x.ofLayer(n[0], n[1]);
            case "file": return x.file(n[0], n[1], n[2]);
            case "document": return x.document(n[0], n[1]);
            case "style": return x.style(n[0], n[1], n[2]);
            case "include": return x.include(n[0], n[1], n[2] == 1) ? 1 : 0;
            case "paragraph": return x.paragraph(n[0], n[1]);
            case "word": return x.word(n[0], a[1]);
            case "reference": return x.reference(n[0], n[1]);
            case "version": return x.version(n[0]);
            case "quota": return x.quota(n[0], n[1]);
            case "run": return x.run(n[0], n[1], n[2]);
            case "write": x.write(n[0], n[1], n[2]); return 0;
            case "job": return x.job(n[0], n[1]);
            case "line": return x.line(n[0], n[1], n[2]);
            case "shows": return x.shows(n[0], n[1]);
            case "anew": return x.anew(n[0], n[1]);
            case "penalties": return x.penalties(n[0]);
            case "differences": return x.differences(n[0], n[1]);
            default: return x.left(n[0]);
        }
    }

    private static long ofModel(Model x, int which, int[] n, long[] a) {
        switch (NAMES[which]) {
            case "layer": return x.layer();
            case "font": return x.font(n[0], n[1], n[2], n[3]);
            case "pack": return x.pack(n[0], n[1], n[2], n[3]);
            case "hide": return x.hide(n[0], n[1]);
            case "seal": return x.seal(n[0]);
            case "image": return x.image(a[0]);
            case "drop": return x.drop(n[0]);
            case "ofLayer": return x.ofLayer(n[0], n[1]);
            case "file": return x.file(n[0], n[1], n[2]);
            case "document": return x.document(n[0], n[1]);
            case "style": return x.style(n[0], n[1], n[2]);
            case "include": return x.include(n[0], n[1], n[2] == 1);
            case "paragraph": return x.paragraph(n[0], n[1]);
            case "word": return x.word(n[0], a[1]);
            case "reference": return x.reference(n[0], n[1]);
            case "version": return x.version(n[0]);
            case "quota": return x.quota(n[0], n[1]);
            case "run": return x.run(n[0], n[1], n[2]);
            case "write": return x.write(n[0], n[1], n[2]);
            case "job": return x.job(n[0], n[1]);
            case "line": return x.line(n[0], n[1], n[2]);
            case "shows": return x.shows(n[0], n[1]);
            case "anew": return x.anew(n[0], n[1]);
            case "penalties": return x.penalties(n[0]);
            case "differences": return x.differences(n[0], n[1]);
            default: return x.left(n[0]);
        }
    }
}
