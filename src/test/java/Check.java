import java.util.function.IntConsumer;

/** Prints every answer that is not the one that is due, and ends the program with 1 if there was one. */
final class Check {
    private int wrong;
    private String test = "";

    /** What is thrown here ends this test alone. */
    void test(String name, Runnable body) {
        test = name + ": ";
        try {
            body.run();
        } catch (RuntimeException thrown) {
            complain("throws " + thrown + " at " + placeIn(thrown));
        }
        test = "";
    }

    void due(String call, long got, long want) {
        if (got != want) {
            complain(call + " answered " + got + ", due is " + want);
        }
    }

    void due(String call, boolean got, boolean want) {
        if (got != want) {
            complain(call + " answered " + got + ", due is " + want);
        }
    }

    void due(String call, String got, String want) {
        if (!got.equals(want)) {
            complain(call + " answered " + got + ", due is " + want);
        }
    }

    void noPoint(String call, Runnable refused) {
        refuses(call, IndexOutOfBoundsException.class, refused);
    }

    void noRange(String call, Runnable refused) {
        refuses(call, IllegalArgumentException.class, refused);
    }

    void noState(String call, Runnable refused) {
        refuses(call, IllegalStateException.class, refused);
    }

    /** The call with each of the wrong numbers, and with the least and the greatest one that there is. */
    void noPoints(String call, IntConsumer refused, int... wrongNumbers) {
        eachRefused(call, IndexOutOfBoundsException.class, refused, wrongNumbers);
    }

    void noRanges(String call, IntConsumer refused, int... wrongNumbers) {
        eachRefused(call, IllegalArgumentException.class, refused, wrongNumbers);
    }

    void end() {
        if (wrong > 0) {
            System.out.println(wrong + " wrong");
            System.exit(1);
        }
    }

    private void eachRefused(String call, Class<?> due, IntConsumer refused, int[] wrongNumbers) {
        for (int number : wrongNumbers) {
            refuses(call + " with " + number, due, () -> refused.accept(number));
        }
        refuses(call + " with the least number", due, () -> refused.accept(Integer.MIN_VALUE));
        refuses(call + " with the greatest number", due, () -> refused.accept(Integer.MAX_VALUE));
    }

    private void refuses(String call, Class<?> due, Runnable refused) {
        String got = thrownBy(refused);
        if (!got.equals(due.getSimpleName())) {
            complain(call + " throws " + got + ", due is " + due.getSimpleName());
        }
    }

    static String thrownBy(Runnable call) {
        try {
            call.run();
        } catch (RuntimeException thrown) {
            return thrown.getClass().getSimpleName();
        }
        return "nothing";
    }

    private static String placeIn(RuntimeException thrown) {
        StringBuilder place = new StringBuilder();
        StackTraceElement[] calls = thrown.getStackTrace();
        for (int i = 0; i < Math.min(4, calls.length); i++) {
            place.append(i == 0 ? "" : ", ").append(calls[i]);
        }
        return place.toString();
    }

    private void complain(String text) {
        wrong++;
        System.out.println(test + text);
    }
}
