import java.io.IOException;
import java.io.UncheckedIOException;
import java.nio.file.Files;
import java.nio.file.Path;
import java.util.regex.Matcher;
import java.util.regex.Pattern;

/** The document, and which of its words the edges that have been looked at are written for. */
final class Doc {
    /** Numbers, and the answer for what is not there. */
    private static final Pattern BOUNDARY = Pattern.compile("(?<![\\w.])-?\\d+(?![\\w])|NONE");
    private static final Pattern REFUSAL = Pattern.compile("@throws \\w+ if ([^@]*)");

    private final String text;
    private final boolean[] told;

    private Doc(String text) {
        this.text = text;
        told = new boolean[text.length()];
    }

    static Doc read() {
        try {
            return new Doc(Files.readString(Path.of("../shared/DOC.md")));
        } catch (IOException e) {
            throw new UncheckedIOException(e);
        }
    }

    /** Where a promise begins; those behind the last one are followed by what is not promised. */
    private int begin(int promise) {
        int begin = text.indexOf("## Promise " + promise + ":");
        return begin < 0 ? text.indexOf("## Not promised") : begin;
    }

    /** Marks words of a promise; of what stands ahead of the promises, if that is 0. They must be there just once. */
    void tell(int promise, String words) {
        int from = promise == 0 ? 0 : begin(promise);
        int to = begin(promise + 1);
        int at = text.indexOf(words, from);
        boolean there = at >= 0 && at + words.length() <= to;
        int again = there ? text.indexOf(words, at + 1) : -1;
        boolean twice = again >= 0 && again < to;
        Check.same("promise " + promise + " says once: " + words, there && !twice, true);
        for (int i = at; there && i < at + words.length(); i++) {
            told[i] = true;
        }
    }

    /** Every number, every NONE and every reason for an exception of these promises must be in words of an edge. */
    void coversPromises(int first, int last) {
        for (int promise = first; promise <= last; promise++) {
            int from = text.indexOf("`: ", begin(promise));
            covers(from, begin(promise + 1));
            Matcher refusal = REFUSAL.matcher(text.substring(from, begin(promise + 1)));
            while (refusal.find()) {
                coversReasons(from + refusal.start(1), refusal.group(1));
            }
        }
    }

    /** Every number from some words on to others, which are there once ahead of the promises. */
    void coversTerms(String first, String behind) {
        covers(text.indexOf(first), text.indexOf(behind));
    }

    private void covers(int from, int to) {
        Matcher boundary = BOUNDARY.matcher(text.substring(from, to));
        while (boundary.find()) {
            int at = from + boundary.start();
            Check.same("an edge for " + around(at), told[at], true);
        }
    }

    private void coversReasons(int from, String reasons) {
        int at = from;
        for (String reason : reasons.split(" or ", -1)) {
            boolean any = false;
            for (int i = at; i < at + reason.length(); i++) {
                any |= told[i];
            }
            Check.same("an edge for the reason " + around(at), any, true);
            at += reason.length() + " or ".length();
        }
    }

    private String around(int at) {
        return text.substring(Math.max(0, at - 50), Math.min(text.length(), at + 50)).replace('\n', ' ');
    }
}
