import java.util.function.Supplier;

/** Counts the answers that are not as due, and tells them. */
final class Checks {
    private int made;
    private int wrong;

    void same(String what, Object got, Object due) {
        made++;
        if (!got.equals(due)) {
            wrong++;
            System.out.println(what + " answered " + got + ", due is " + due);
        }
    }

    void raises(String what, Class<? extends RuntimeException> due, Supplier<Object> call) {
        same(what, outcome(call), due.getSimpleName());
    }

    /** All of these calls have to throw, and to leave the digest as it was. */
    @SafeVarargs
    final void refused(String what, ShuffleHall hall, Class<? extends RuntimeException> due,
            Supplier<Object>... calls) {
        long before = hall.digest();
        for (int i = 0; i < calls.length; i++) {
            raises(what + ", wrong call " + i, due, calls[i]);
        }
        same(what + ", digest behind the wrong calls", hall.digest(), before);
    }

    static Object outcome(Supplier<Object> call) {
        try {
            return call.get();
        } catch (RuntimeException e) {
            return e.getClass().getSimpleName();
        }
    }

    int wrong() {
        return wrong;
    }

    void end(String name) {
        System.out.println(name + ": " + made + " checks, " + wrong + " wrong");
        if (wrong != 0 || made == 0) {
            System.exit(1);
        }
    }
}
