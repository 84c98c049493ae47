import java.util.ArrayList;
import java.util.List;

/** Every shuffle of every deck, and every placement of a few cards, answered as by PlainHall. */
public final class EveryTest extends TestBase {
    private static final int MOST_PLACED = 7;

    public static void main(String[] args) {
        for (int n = 2; n <= 16; n++) {
            for (int kind = -1; kind <= 10; kind++) {
                shuffles(n, kind);
            }
        }
        for (int n = 2; n <= MOST_PLACED; n++) {
            place(new ArrayList<>(), n);
        }
        CHECKS.end("EveryTest");
    }

    private static void shuffles(int n, int kind) {
        int past = kind == 8 ? 1 << n : kind == 9 ? 1 << (n - 1) : n + 1;
        for (int number = -1; number <= past + 1; number++) {
            ShuffleHall hall = laid(n);
            hall.turn(0, 0);
            hall.turn(0, n / 2);
            String due = due(n, kind, number);
            CHECKS.same("kind " + kind + " with " + number + " of " + n, shuffled(hall, kind, number), due);
        }
    }

    /** The cards from a deck whose top one and middle one are turned; nothing, if that is no shuffle. */
    private static String due(int n, int kind, int number) {
        if (!PlainHall.allowed(kind, number, n)) {
            return "IllegalArgumentException, IllegalArgumentException";
        }
        List<int[]> cards = new ArrayList<>();
        for (int i = 0; i < n; i++) {
            cards.add(new int[] {i, i == 0 || i == n / 2 ? 1 : 0});
        }
        StringBuilder text = new StringBuilder();
        int lowest = 0;
        List<int[]> made = PlainHall.shuffled(cards, kind, number);
        for (int i = 0; i < n; i++) {
            text.append(i == 0 ? "" : " ").append(made.get(i)[0]).append(made.get(i)[1] == 1 ? "^" : "");
            lowest = made.get(i)[0] == n - 1 ? i : lowest;
        }
        return lowest + ", " + text;
    }

    /** Where the lowest card would go, and how the cards lie then. */
    private static String shuffled(ShuffleHall hall, int kind, int number) {
        Object goes = Checks.outcome(() -> hall.goes(0, hall.ofDeck(0, 0) - 1, kind, number));
        Object top = Checks.outcome(() -> hall.shuffle(0, kind, number, 1));
        return goes + ", " + (top instanceof Integer ? cards(hall, 0) : top);
    }

    private static void place(List<Integer> order, int n) {
        if (order.size() == n) {
            placement(order);
            return;
        }
        for (int card = 0; card < n; card++) {
            if (!order.contains(card)) {
                order.add(card);
                place(order, n);
                order.remove(order.size() - 1);
            }
        }
    }

    private static void placement(List<Integer> order) {
        ShuffleHall hall = new ShuffleHall();
        PlainHall plain = new PlainHall();
        hall.deck(order.size());
        plain.deck(order.size());
        for (int i = order.size() - 1; i >= 0; i--) {
            int at = hall.find(0, order.get(i), false);
            for (int number = at; number <= at + 1; number++) {
                hall.shuffle(0, 6, number, 1);
                plain.shuffle(0, 6, number, 1);
            }
        }
        for (int riffles = 0; riffles <= 12; riffles++) {
            CHECKS.same("chance of " + order, hall.chance(0, riffles), plain.chance(0, riffles));
        }
        CHECKS.same("far of " + order, hall.far(0), plain.far(0));
        CHECKS.same("digest of " + order, hall.digest(), plain.digest());
    }
}
