import java.lang.reflect.InvocationTargetException;
import java.lang.reflect.Method;
import java.util.Arrays;

/** Long runs of calls, each answered by the class and by PlainHall, which has to agree. */
public final class RunsTest {
    private static final int RUNS = 240;
    private static final int CALLS = 512;

    /** Name, how often it comes beside the others, and a letter for what each argument is. */
    private static final String[][] TABLE = {
        {"deck", "2", "n"}, {"shuffle", "14", "dkmo"}, {"undo", "8", "d"}, {"turn", "5", "dp"},
        {"sequence", "1", ""}, {"step", "6", "skm"}, {"perform", "7", "dso"}, {"card", "2", "dp"},
        {"find", "3", "dpb"}, {"ofDeck", "9", "dw"}, {"keeps", "6", "dw"}, {"chance", "3", "dr"},
        {"far", "1", "d"}, {"alike", "2", "dd"}, {"ofSequence", "3", "sw"}, {"period", "4", "sn"},
        {"many", "3", "w"}, {"toTop", "2", "dp"}, {"goes", "4", "dpkm"}, {"best", "2", "d"},
        {"riffle", "2", "d"}, {"digest", "4", ""},
    };
    private static final int[] WILD = {
        -1, 16, 17, 40, 99999, 100000, 100001, 1000000, 1000001, 1 << 15, 1 << 16, 1 << 30,
        Integer.MAX_VALUE, Integer.MIN_VALUE, Integer.MIN_VALUE + 1, -100000,
    };

    private long seed;

    public static void main(String[] args) throws Exception {
        Checks checks = new Checks();
        for (int run = 0; run < RUNS && checks.wrong() == 0; run++) {
            new RunsTest().compare(checks, run);
        }
        checks.end("RunsTest");
    }

    private void compare(Checks checks, int run) throws Exception {
        seed = 1000003L * run + 17;
        ShuffleHall hall = new ShuffleHall();
        PlainHall plain = new PlainHall();
        // Some runs shuffle mostly and then take back mostly, to come beyond what a deck keeps.
        boolean isLopsided = run % 4 == 3;
        for (int call = 0; call < CALLS && checks.wrong() == 0; call++) {
            String[] row = call < 3 ? TABLE[call == 2 ? 4 : 0] : drawn();
            if (isLopsided && call >= 3 && below(10) < 7) {
                row = TABLE[call < CALLS / 2 ? 1 : 2];
            }
            Object[] given = arguments(row[2]);
            Object due = answer(plain, row[0], given);
            Object got = answer(hall, row[0], given);
            checks.same("run " + run + ", call " + call + ", " + row[0] + Arrays.toString(given), got, due);
        }
        checks.same("run " + run + ", digest", hall.digest(), plain.digest());
    }

    private String[] drawn() {
        int sum = 0;
        for (String[] row : TABLE) {
            sum += Integer.parseInt(row[1]);
        }
        int left = below(sum);
        int at = 0;
        while (left >= Integer.parseInt(TABLE[at][1])) {
            left -= Integer.parseInt(TABLE[at][1]);
            at++;
        }
        return TABLE[at];
    }

    private Object[] arguments(String letters) {
        Object[] given = new Object[letters.length()];
        int kind = 0;
        for (int i = 0; i < given.length; i++) {
            char letter = letters.charAt(i);
            if (letter == 'b') {
                given[i] = below(2) == 0;
            } else if (letter == 'm') {
                given[i] = below(60) == 0 ? WILD[below(WILD.length)] : number(kind);
            } else {
                given[i] = below(60) == 0 ? WILD[below(WILD.length)] : common(letter);
            }
            if (letter == 'k') {
                kind = (int) given[i];
            }
        }
        return given;
    }

    private int common(char letter) {
        switch (letter) {
            case 'd':
            case 's':
                return below(8) == 0 ? below(5) : below(2);
            case 'n':
                return below(4) == 0 ? 8 + 4 * below(3) : 1 + below(17);
            case 'p':
                return below(5) == 0 ? below(17) : below(6);
            case 'k':
                return below(10);
            case 'w':
                return below(12);
            case 'r':
                return below(14);
            default:
                int size = below(300);
                return size == 0 ? 1000000 : size < 3 ? 0 : size < 60 ? 1 + below(50) : 1;
        }
    }

    private int number(int kind) {
        switch (kind) {
            case 1:
            case 2:
            case 3:
            case 4:
                return below(12) == 0 ? 1 : 0;
            case 5:
                return 1 + below(5);
            case 8:
            case 9:
                return below(1 << (1 + below(16)));
            default:
                return below(1 + below(18));
        }
    }

    private static Object answer(Object hall, String name, Object[] given) throws Exception {
        for (Method method : hall.getClass().getDeclaredMethods()) {
            if (method.getName().equals(name) && method.getParameterCount() == given.length
                    && java.lang.reflect.Modifier.isPublic(method.getModifiers())) {
                try {
                    method.setAccessible(true);
                    return method.invoke(hall, given);
                } catch (InvocationTargetException e) {
                    return "throws " + e.getCause().getClass().getSimpleName();
                }
            }
        }
        throw new IllegalStateException("no method " + name);
    }

    /** The same numbers in each run of this test. */
    private int below(int bound) {
        seed = seed * 6364136223846793005L + 1442695040888963407L;
        return (int) ((seed >>> 33) % bound);
    }
}
