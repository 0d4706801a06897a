import java.lang.reflect.InvocationTargetException;
import java.lang.reflect.Method;
import java.util.Arrays;

/** All promises: long runs of calls, always the same ones, which PlainHouse must answer in the same way. */
public final class RandomRunsTest {
    private static final int RUNS = 500, CALLS = 512;
    private static final Check check = new Check();
    private static long seed;

    /** A call, how often it comes, and the kinds of its arguments, as argument() tells them. */
    private static final String[] CALLS_TOLD = {
        "key 6 ", "between 6 D D n d", "stroke 40 D N x y c", "pen 14 x y", "erase 6 D N", "paint 12 D c",
        "gaps 5 D", "approve 5 D b", "colour 6 P c C", "scene 5 f P", "expose 40 S L F w", "voice 12 S F s",
        "mouth 8 m D", "speaks 3 S L", "peg 4 p", "move 20 q F X X", "hang 12 S l p h", "shoot 10 S",
        "hand 2 v", "splice 4 S", "cut 1 ", "of 14 D o", "point 14 D x y", "has 14 S L F", "moved 14 S L F b",
        "seen 14 S F x y", "seenAnew 14 S F x y", "shot 10 S F x y", "stale 6 S", "hangs 10 S F D",
        "faults 10 S F", "hours 4 H", "film 4 g",
    };

    public static void main(String[] args) {
        int answered = 0;
        for (int run = 0; run < RUNS; run++) {
            seed = 7919L * run + 1;
            answered += oneRun(run);
        }
        check.due("most calls are no refusals", answered > RUNS * CALLS / 2, true);
        check.end();
    }

    private static int oneRun(int run) {
        CelHouse house = new CelHouse();
        PlainHouse plain = new PlainHouse();
        int oddEvery = run % 3 == 0 ? 12 : 60;
        int answered = 0;
        for (int call = 0; call < CALLS; call++) {
            String[] told = CALLS_TOLD[call < 12 ? call % 4 == 3 ? 9 : call % 4 == 1 ? 14 : 0 : pick()].split(" ");
            Object[] arguments = new Object[told.length - 2];
            Class<?>[] types = new Class<?>[told.length - 2];
            for (int i = 0; i < arguments.length; i++) {
                char kind = told[i + 2].charAt(0);
                arguments[i] = kind == 'b' ? (Object) (random(2) == 0) : (Object) argument(kind, plain, oddEvery);
                types[i] = kind == 'b' ? boolean.class : int.class;
            }
            String due = answer(plain, told[0], types, arguments);
            String got = answer(house, told[0], types, arguments);
            check.due("run " + run + ", call " + call + ", " + told[0] + Arrays.toString(arguments), got, due);
            answered += due.indexOf("Exception") < 0 ? 1 : 0;
        }
        return answered;
    }

    private static String answer(Object house, String name, Class<?>[] types, Object[] arguments) {
        try {
            Method method = house.getClass().getMethod(name, types);
            return String.valueOf(method.invoke(house, arguments));
        } catch (InvocationTargetException thrown) {
            return thrown.getCause().getClass().getName();
        } catch (ReflectiveOperationException missing) {
            return "no call " + name;
        }
    }

    private static int argument(char kind, PlainHouse plain, int oddEvery) {
        if (random(oddEvery) == 0) {
            int[] odd = {-3, -2, -1, 0, 1, 4, 5, 6, 8, 10, 12, 16, 21, 24, 25, 99, 100, 124,
                Integer.MIN_VALUE, Integer.MAX_VALUE, -21};
            return odd[random(odd.length)];
        }
        switch (kind) {
            case 'D': return random(Math.max(1, plain.cels.size()));
            case 'S': return random(Math.max(1, plain.sheets.size()));
            case 'F': return random(random(3) == 0 ? 24 : 5);
            case 'L': case 'P': return random(4);
            case 'l': return random(5);
            case 'N': case 'c': case 'm': return random(8);
            case 's': return random(8) - 1;
            case 'n': return random(6);
            case 'd': return 5 + random(20);
            case 'x': return random(random(2) == 0 ? 16 : 7);
            case 'y': return random(random(2) == 0 ? 12 : 6);
            case 'C': return 1 + random(99);
            case 'f': return 1 + random(24);
            case 'w': return what(plain);
            case 'p': return random(plain.pegs.size() + 1) - 1;
            case 'q': return random(Math.max(1, plain.pegs.size()));
            case 'X': return random(random(3) == 0 ? 41 : 9) - (random(2) == 0 ? 4 : 0);
            case 'h': return 1 + random(4);
            case 'v': return 1 + random(9);
            case 'o': return random(6);
            case 'H': return random(Math.max(1, plain.hands.size()));
            default: return random(60);
        }
    }

    private static int what(PlainHouse plain) {
        switch (random(6)) {
            case 0: return -2;
            case 1: return -1;
            case 2: return 100 + random(random(2) == 0 ? 24 : 4);
            default: return random(Math.max(1, plain.cels.size()));
        }
    }

    private static int pick() {
        int sum = 0;
        for (String told : CALLS_TOLD) {
            sum += Integer.parseInt(told.split(" ")[1]);
        }
        int left = random(sum);
        int at = 0;
        while (left >= Integer.parseInt(CALLS_TOLD[at].split(" ")[1])) {
            left -= Integer.parseInt(CALLS_TOLD[at].split(" ")[1]);
            at++;
        }
        return at;
    }

    private static int random(int end) {
        seed = seed * 6364136223846793005L + 1442695040888963407L;
        return (int) ((seed >>> 33) % end);
    }
}
