import java.util.ArrayList;
import java.util.List;

/**
 * One boundary that words of the document name: calls on a new box, with the answers that are due. Behind each refused
 * call a box that had it too is looked at beside one that had not: it must have changed nothing.
 */
final class Edge {
    /** What stands ahead of the promises. */
    static final int TERMS = 0;
    static final int ALL = 67108863;
    private static final Doc DOC = Doc.read();

    private final String name;
    private final Box box = new Box();
    private final List<Told> taken = new ArrayList<>();

    Edge(int promise, String words) {
        name = promise + ", " + words + ": ";
        DOC.tell(promise, words);
    }

    static Doc document() {
        return DOC;
    }

    int calls() {
        return box.calls();
    }

    /** A call that must be taken. */
    long call(String call, long... arguments) {
        return take(new Told(call, arguments));
    }

    void times(int count, String call, long... arguments) {
        for (int i = 0; i < count; i++) {
            call(call, arguments);
        }
    }

    void due(long want, String call, long... arguments) {
        long got = call(call, arguments);
        Check.same(name + new Told(call, arguments), got, want);
    }

    /** The answers of a call for the numbers from 0 on at a place of its arguments. */
    void row(String call, int place, long[] arguments, long... want) {
        long[] got = new long[want.length];
        for (int i = 0; i < want.length; i++) {
            got[i] = take(new Told(call, arguments).with(place, i));
        }
        Check.row(name + new Told(call, arguments) + " from 0 on", got, want);
    }

    void same(String what, long got, long want) {
        Check.same(name + what, got, want);
    }

    void refused(Class<?> kind, String call, long... arguments) {
        refuse(kind, new Told(call, arguments));
    }

    /** An argument, told by its place, may be from least to most; what it is in the call does not matter. */
    void range(long least, long most, int place, String call, long... arguments) {
        Told told = new Told(call, arguments);
        take(told.with(place, least));
        take(told.with(place, most));
        outside(Check.RANGE, least, most, told, place);
    }

    /** What an argument, told by its place, numbers is there from 0 on, so many of it. */
    void numbers(int count, int place, String call, long... arguments) {
        Told told = new Told(call, arguments);
        take(told.with(place, 0));
        take(told.with(place, count - 1));
        outside(Check.NO_SUCH, 0, count - 1, told, place);
    }

    /** No value of an argument, told by its place, numbers anything. */
    void noNumbers(int place, String call, long... arguments) {
        outside(Check.NO_SUCH, 0, -1, new Told(call, arguments), place);
    }

    private void outside(Class<?> kind, long least, long most, Told told, int place) {
        refuse(kind, told.with(place, least - 1));
        refuse(kind, told.with(place, most + 1));
        refuse(kind, told.with(place, Integer.MIN_VALUE));
        refuse(kind, told.with(place, Integer.MAX_VALUE));
    }

    private long take(Told told) {
        try {
            long answer = box.take(told);
            taken.add(told);
            return answer;
        } catch (RuntimeException e) {
            Check.same(name + told + " threw " + e, false, true);
            return Long.MIN_VALUE;
        }
    }

    private void refuse(Class<?> kind, Told told) {
        Check.refused(name + told, kind, () -> box.take(told));
        for (int part = 0; part < Look.PARTS; part++) {
            Look with = Look.at(again(told), part);
            Look without = Look.at(again(null), part);
            Told unlike = without.firstUnlike(with);
            Check.same(name + told + " was refused, but changed " + unlike, unlike == null, true);
        }
    }

    /** A new box with the calls that were taken, and perhaps one that is refused. */
    private Box again(Told refused) {
        Box other = new Box();
        for (Told told : taken) {
            other.take(told);
        }
        if (refused != null) {
            try {
                other.take(refused);
            } catch (RuntimeException e) {
                return other;
            }
        }
        return other;
    }
}
