import java.util.Arrays;
import java.util.StringJoiner;

/** A call that is told by its name, so that it can be made on more than one box. */
final class Told {
    final String name;
    final long[] arguments;

    Told(String name, long... arguments) {
        this.name = name;
        this.arguments = arguments;
    }

    /** The same call with another argument at a place. */
    Told with(int place, long argument) {
        long[] others = Arrays.copyOf(arguments, arguments.length);
        others[place] = argument;
        return new Told(name, others);
    }

    @Override
    public String toString() {
        StringJoiner text = new StringJoiner(", ", name + "(", ")");
        for (long argument : arguments) {
            text.add(String.valueOf(argument));
        }
        return text.toString();
    }
}
