import java.util.function.IntToLongFunction;

/** Both sides of both ends of a span of numbers. */
final class Span {
    private Span() {
    }

    static void bounds(String name, int least, int most, long refused, IntToLongFunction call) {
        Due.holds(name + " " + least + " is taken", call.applyAsLong(least) != refused);
        Due.holds(name + " " + most + " is taken", call.applyAsLong(most) != refused);
        int[] outside = {least - 1, most + 1, Integer.MIN_VALUE, Integer.MAX_VALUE};
        for (int v : outside) {
            Due.is(name + " " + v, call.applyAsLong(v), refused);
        }
    }
}
