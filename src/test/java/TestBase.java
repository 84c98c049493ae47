/** What the tests share: halls in a known state, how a deck lies, and which numbers section 1 allows. */
abstract class TestBase {
    static final Class<IndexOutOfBoundsException> INDEX = IndexOutOfBoundsException.class;
    static final Class<IllegalArgumentException> ARGUMENT = IllegalArgumentException.class;
    static final Class<IllegalStateException> STATE = IllegalStateException.class;

    static final int NONE = -1;
    static final int LEAST_INT = Integer.MIN_VALUE;
    static final int MOST_INT = Integer.MAX_VALUE;

    static final Checks CHECKS = new Checks();

    /** The cards from the top on; ^ stands behind one whose face is up. */
    static String cards(ShuffleHall hall, int deck) {
        StringBuilder text = new StringBuilder();
        for (int i = 0; i < hall.ofDeck(deck, 0); i++) {
            int card = hall.card(deck, i);
            text.append(i == 0 ? "" : " ").append(card).append(hall.find(deck, card, true) == 1 ? "^" : "");
        }
        return text.toString();
    }

    static ShuffleHall laid(int... sizes) {
        ShuffleHall hall = new ShuffleHall();
        for (int size : sizes) {
            hall.deck(size);
        }
        return hall;
    }

    /** A deck that lies as is told: from the lowest card on, each is fetched to the top by BACK alone. */
    static ShuffleHall lying(int... order) {
        ShuffleHall hall = laid(order.length);
        for (int i = order.length - 1; i >= 0; i--) {
            int at = hall.find(0, order[i], false);
            hall.shuffle(0, 6, at, 1);
            hall.shuffle(0, 6, at + 1, 1);
        }
        for (int i = 0; i < order.length; i++) {
            CHECKS.same("card laid at " + i, hall.card(0, i), order[i]);
        }
        return hall;
    }

    /** The cards from one number to another one, up or down, as cards() writes them. */
    static String row(int from, int to) {
        StringBuilder text = new StringBuilder();
        int by = from <= to ? 1 : -1;
        for (int card = from; card != to + by; card += by) {
            text.append(card == from ? "" : " ").append(card);
        }
        return text.toString();
    }

    /** The least and the greatest m of a kind for n cards (section 1); none, if there is no such shuffle. */
    static int[] edges(int kind, int n) {
        switch (kind) {
            case 0: return new int[] {0, n - 1};
            case 1: case 2: return n % 2 == 0 ? new int[] {0, 0} : new int[] {};
            case 3: case 4: return new int[] {0, 0};
            case 5: return new int[] {2, 4};
            case 6: case 7: return new int[] {0, n};
            case 8: return new int[] {0, (1 << n) - 1};
            case 9: return new int[] {0, (1 << (n - 1)) - 1};
            default: return new int[] {};
        }
    }

    /** Numbers that are too small or too large for it: next to its edges, and the farthest ones. */
    static int[] beyond(int kind, int n) {
        int[] edges = edges(kind, n);
        if (edges.length == 0) {
            return new int[] {LEAST_INT, -1, 0, 1, MOST_INT};
        }
        return new int[] {LEAST_INT, edges[0] - 1, edges[1] + 1, MOST_INT};
    }
}
