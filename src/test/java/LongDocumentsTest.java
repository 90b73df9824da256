/** Long documents full of references, drawn by a fixed rule, set alike by PressBox and by Model. */
public final class LongDocumentsTest {
    private long seed = 20261119;

    public static void main(String[] args) {
        LongDocumentsTest test = new LongDocumentsTest();
        int[] byPasses = new int[7];
        for (int run = 1; run <= 20000; run++) {
            test.compare(run, byPasses);
        }
        for (int passes = 1; passes <= 5; passes++) {
            Check.same("some of " + passes + " passes", byPasses[passes] > 0, true);
        }
        Check.same("some that never settled", byPasses[6] > 0, true);
        Check.end("LongDocumentsTest");
    }

    private int draw(int bound) {
        seed = seed * 6364136223846793005L + 1442695040888963407L;
        return (int) ((seed >>> 33) % bound);
    }

    private void compare(int run, int[] byPasses) {
        PressBox box = new PressBox();
        Model model = new Model();
        prepare(box, model);
        fill(box, model);
        Check.same("run " + run, box.run(0, 0, 0), model.run(0, 0, 0));
        for (int what = 0; what < 7; what++) {
            Check.same("run " + run + " job " + what, box.job(0, what), model.job(0, what));
        }
        Check.same("run " + run + " penalties", box.penalties(0), model.penalties(0));
        for (int line = 0; line <= model.job(0, 4); line++) {
            for (int what = 0; what < 5; what++) {
                Check.same("run " + run + " line " + line + ", " + what, box.line(0, line, what),
                    model.line(0, line, what));
            }
            Check.same("run " + run + " anew " + line, box.anew(0, line), model.line(0, line, 4));
        }
        for (int word = 0; word < 60; word++) {
            Check.same("run " + run + " shows " + word, box.shows(0, word), model.shows(0, word));
        }
        byPasses[(int) model.job(0, 5)]++;
        byPasses[6] += model.builds.get(0).work.settled ? 0 : 1;
    }

    private void prepare(PressBox box, Model model) {
        int width = 1 + draw(4);
        int space = draw(4);
        int measure = 20 + draw(20);
        int height = 3 + draw(3);
        box.layer();
        model.layer();
        box.font(0, 0, width, 67108863);
        model.font(0, 0, width, 67108863);
        box.pack(0, 5, space, 0);
        model.pack(0, 5, space, 0);
        box.seal(0);
        model.seal(0);
        box.image(1);
        model.image(1);
        box.document(measure, height);
        model.document(measure, height);
        box.include(0, 5, true);
        model.include(0, 5, true);
        box.quota(0, 10000);
        model.quota(0, 10000);
    }

    private void fill(PressBox box, Model model) {
        int paragraphs = 6 + draw(7);
        int words = 40 + draw(21);
        int referring = 1 + draw(9);
        for (int paragraph = 0; paragraph < paragraphs; paragraph++) {
            box.paragraph(0, 0);
            model.paragraph(0, 0);
            int count = paragraph == paragraphs - 1 ? words : Math.min(words, draw(2 * words / (paragraphs - paragraph)));
            words -= count;
            for (int i = 0; i < count; i++) {
                if (draw(10) < referring) {
                    int target = draw(4) == 0 ? draw(paragraph + 1) : paragraph;
                    box.reference(0, target);
                    model.reference(0, target);
                } else {
                    long letters = Check.letters(0, 1 + draw(8));
                    box.word(0, letters);
                    model.word(0, letters);
                }
            }
        }
    }
}
