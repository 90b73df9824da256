import java.util.ArrayList;
import java.util.List;

/** Pages of drawn documents beside every way to part their lines, each scored as a whole by the document's words. */
public final class AllWaysTest {
    private static final int RUNS = 4000, MOST_LINES = 14;

    private long seed;
    private final int height, space;
    /** Of each paragraph that has lines: how many. */
    private final List<Integer> paragraphs = new ArrayList<>();
    /** Of each line: its place in its paragraph from the first one on, and from the last one on. */
    private final List<Integer> fromFirst = new ArrayList<>();
    private final List<Integer> fromLast = new ArrayList<>();
    private List<Integer> best;
    private int least, ways;

    public static void main(String[] args) {
        int ties = 0;
        for (int run = 1; run <= RUNS; run++) {
            AllWaysTest test = new AllWaysTest(run);
            test.compare("run " + run);
            ties += test.ways > 1 ? 1 : 0;
        }
        Check.same("ways that are as good as others were among them", ties > RUNS / 50 && ties < RUNS, true);
        Check.end("AllWaysTest");
    }

    private AllWaysTest(int run) {
        seed = 20261120 + run * 0x9E3779B97F4A7C15L;
        height = 3 + draw(draw(2) == 0 ? 3 : 10);
        space = draw(draw(2) == 0 ? 3 : 16);
        int rest = 1 + draw(MOST_LINES);
        while (rest > 0) {
            int count = 1 + draw(Math.min(rest, 6));
            paragraphs.add(count);
            for (int line = 0; line < count; line++) {
                fromFirst.add(line);
                fromLast.add(count - 1 - line);
            }
            rest -= count;
        }
    }

    private int draw(int bound) {
        seed = seed * 6364136223846793005L + 1442695040888963407L;
        return (int) ((seed >>> 33) % bound);
    }

    private void compare(String run) {
        tryWays(new ArrayList<>(), 0);
        PressBox box = set();
        Check.same(run + " lines", box.job(0, 4), fromFirst.size());
        Check.same(run + " pages", box.job(0, 3), best.size());
        Check.same(run + " penalties", box.penalties(0), least);
        int line = 0;
        for (int page = 0; page < best.size(); page++) {
            for (int i = 0; i < best.get(page); i++) {
                Check.same(run + " page of line " + line, box.line(0, line, 4), page);
                line++;
            }
        }
    }

    /** Each word is a line: 20 wide for a measure of 20. */
    private PressBox set() {
        PressBox box = new PressBox();
        box.layer();
        box.font(0, 0, 20, 67108863);
        box.document(20, height);
        for (int file = 5; file < 10; file++) {
            box.pack(0, file, Math.max(0, Math.min(3, space - 3 * (file - 5))), 0);
            box.include(0, file, true);
        }
        box.seal(0);
        box.image(1);
        for (int count : paragraphs) {
            box.paragraph(0, 0);
            for (int line = 0; line < count; line++) {
                box.word(0, 1);
            }
        }
        box.quota(0, 10000);
        box.run(0, 0, 0);
        return box;
    }

    /** Those with more lines on an earlier page come first: of ways that are alike the first one is taken. */
    private void tryWays(List<Integer> pages, int from) {
        if (from == fromFirst.size()) {
            judge(pages);
            return;
        }
        for (int count = fromFirst.size() - from; count > 0; count--) {
            if (count == 1 || high(from, count) <= height) {
                pages.add(count);
                tryWays(pages, from + count);
                pages.remove(pages.size() - 1);
            }
        }
    }

    private void judge(List<Integer> pages) {
        int sum = penalties(pages);
        if (best == null || sum < least) {
            best = new ArrayList<>(pages);
            least = sum;
            ways = 0;
        }
        ways += sum == least ? 1 : 0;
    }

    private int high(int from, int count) {
        int high = count;
        for (int line = from; line < from + count; line++) {
            high += fromLast.get(line) == 0 ? space : 0;
        }
        return high;
    }

    private int penalties(List<Integer> pages) {
        int sum = 0;
        int behind = 0;
        for (int page = 0; page < pages.size() - 1; page++) {
            int missing = Math.max(0, height - high(behind, pages.get(page)));
            behind += pages.get(page);
            sum += missing * missing;
            sum += fromFirst.get(behind - 1) == 0 && fromLast.get(behind - 1) > 0 ? 7 : 0;
            sum += fromLast.get(behind) == 0 && fromFirst.get(behind) > 0 ? 10 : 0;
        }
        return sum;
    }
}
