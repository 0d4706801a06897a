/** Prints every answer that is not the one that is due, and ends the program with 1 if there was one. */
final class Check {
    private int wrong;

    void due(String call, long got, long want) {
        if (got != want) {
            complain(call + " answered " + got + ", due is " + want);
        }
    }

    void due(String call, boolean got, boolean want) {
        if (got != want) {
            complain(call + " answered " + got + ", due is " + want);
        }
    }

    void due(String call, String got, String want) {
        if (!got.equals(want)) {
            complain(call + " answered " + got + ", due is " + want);
        }
    }

    void noPoint(String call, Runnable refused) {
        refuses(call, IndexOutOfBoundsException.class, refused);
    }

    void noRange(String call, Runnable refused) {
        refuses(call, IllegalArgumentException.class, refused);
    }

    void noState(String call, Runnable refused) {
        refuses(call, IllegalStateException.class, refused);
    }

    void end() {
        if (wrong > 0) {
            System.out.println(wrong + " wrong");
            System.exit(1);
        }
    }

    private void refuses(String call, Class<?> due, Runnable refused) {
        String got = "nothing";
        try {
            refused.run();
        } catch (RuntimeException thrown) {
            got = thrown.getClass().getSimpleName();
        }
        if (!got.equals(due.getSimpleName())) {
            complain(call + " throws " + got + ", due is " + due.getSimpleName());
        }
    }

    private void complain(String text) {
        wrong++;
        System.out.println(text);
    }
}
