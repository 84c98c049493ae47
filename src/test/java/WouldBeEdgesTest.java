import java.math.BigInteger;
import java.util.ArrayList;
import java.util.List;

/** The boundary cases of the promises 19 to 23 (what would be), sentence by sentence. */
public final class WouldBeEdgesTest extends TestBase {
    public static void main(String[] args) {
        promise19OddN();
        promise19TopAlready();
        promise19ByHowFew();
        promise19NoSuchPosition();
        promise20FirstAndLastPosition();
        promise20RangeOfEachKind();
        promise20NoSuchDeckOrPosition();
        promise21LeftOut();
        promise21OfSeveralTheSmallest();
        promise21EachKind();
        promise21NoSuchDeck();
        promise22NewDeck();
        promise22SmallestAndGreatest();
        promise22None();
        promise22NoSuchDeck();
        promise23Empty();
        promise23Full();
        promise23WrapsAround();
        CHECKS.end("WouldBeEdgesTest");
    }

    // Promise 19: "NONE, if .. n is odd": for each position, the top one too.
    private static void promise19OddN() {
        for (int n = 3; n <= 15; n += 2) {
            ShuffleHall hall = laid(n);
            for (int position = 0; position < n; position++) {
                CHECKS.same("19: odd " + n + ", from " + position, hall.toTop(0, position), NONE);
            }
        }
    }

    // Promise 19: "by how few": none, where it is on top already; one, where the second half begins.
    private static void promise19TopAlready() {
        for (int n = 2; n <= 16; n += 2) {
            ShuffleHall hall = laid(n);
            CHECKS.same("19: top of " + n, hall.toTop(0, 0), 0);
            CHECKS.same("19: second half of " + n, hall.toTop(0, n / 2), 1);
            hall.shuffle(0, 6, n, 1);
            CHECKS.same("19: its position, not its card, " + n, hall.toTop(0, 0), 0);
            CHECKS.same("19: second half, reversed, " + n, hall.toTop(0, n / 2), 1);
        }
    }

    /** Does all OUTS and INS of a length, told by bits, and looks for the card on top. */
    private static boolean comesToTop(int n, int position, int length) {
        for (int bits = 0; bits < 1 << length; bits++) {
            ShuffleHall hall = laid(n);
            for (int i = 0; i < length; i++) {
                hall.shuffle(0, 1 + (bits >> i & 1), 0, 1);
            }
            if (hall.card(0, 0) == position) {
                return true;
            }
        }
        return false;
    }

    // For even n each position comes to the top, so that "NONE, if it can not" is never answered there.
    private static void promise19ByHowFew() {
        for (int n = 2; n <= 16; n += 2) {
            ShuffleHall hall = laid(n);
            for (int position = 0; position < n; position++) {
                int due = 0;
                while (due < 6 && !comesToTop(n, position, due)) {
                    due++;
                }
                CHECKS.same("19: of " + n + " from " + position, hall.toTop(0, position), due);
            }
        }
    }

    // Promise 19: "if there is no such DECK, or POSITION": for odd n, too.
    private static void promise19NoSuchPosition() {
        for (int n = 2; n <= 16; n++) {
            ShuffleHall hall = laid(n, 16);
            int size = n;
            CHECKS.refused("19: no such position of " + n, hall, INDEX, () -> hall.toTop(0, size),
                    () -> hall.toTop(0, -1), () -> hall.toTop(0, 32), () -> hall.toTop(0, LEAST_INT),
                    () -> hall.toTop(0, MOST_INT));
        }
        ShuffleHall hall = laid(4, 3);
        CHECKS.refused("19: no such deck", hall, INDEX, () -> hall.toTop(2, 0), () -> hall.toTop(-1, 0),
                () -> hall.toTop(4, 0), () -> hall.toTop(LEAST_INT, -1), () -> hall.toTop(MOST_INT, 0));
    }

    // Promise 20: "at which POSITION its CARD would be behind that SHUFFLE": the first and the last one.
    private static void promise20FirstAndLastPosition() {
        for (int n = 2; n <= 16; n++) {
            ShuffleHall hall = laid(n);
            hall.shuffle(0, 6, n, 1);
            CHECKS.same("20: top, cut by one, " + n, hall.goes(0, 0, 0, 1), n - 1);
            CHECKS.same("20: lowest, cut by one, " + n, hall.goes(0, n - 1, 0, 1), n - 2);
            CHECKS.same("20: top, cut by none, " + n, hall.goes(0, 0, 0, 0), 0);
            CHECKS.same("20: lowest to the top, " + n, hall.goes(0, n - 1, 0, n - 1), 0);
            CHECKS.same("20: lowest, all back, " + n, hall.goes(0, n - 1, 6, n), 0);
            CHECKS.same("20: top, all over, " + n, hall.goes(0, 0, 7, n), n - 1);
            CHECKS.same("20: no card was moved, " + n, cards(hall, 0), row(n - 1, 0));
            CHECKS.same("20: no shuffle was done, " + n, hall.ofDeck(0, 8), 1);
        }
    }

    // Promise 20: "IllegalArgumentException if that is no SHUFFLE for it (section 1)".
    private static void promise20RangeOfEachKind() {
        for (int n = 2; n <= 16; n++) {
            for (int kind = 0; kind <= 9; kind++) {
                int of = kind;
                String what = "20: kind " + kind + " of " + n + " with ";
                for (int m : edges(kind, n)) {
                    ShuffleHall hall = laid(n);
                    ShuffleHall done = laid(n);
                    done.shuffle(0, kind, m, 1);
                    for (int position = 0; position < n; position++) {
                        CHECKS.same(what + m, hall.goes(0, position, kind, m), done.find(0, position, false));
                    }
                }
                ShuffleHall hall = laid(n);
                for (int m : beyond(kind, n)) {
                    CHECKS.refused(what + m, hall, ARGUMENT, () -> hall.goes(0, 0, of, m));
                }
            }
        }
        ShuffleHall hall = laid(6);
        for (int kind : new int[] {-1, 10, 11, LEAST_INT, MOST_INT}) {
            CHECKS.refused("20: kind " + kind, hall, ARGUMENT, () -> hall.goes(0, 0, kind, 0));
        }
    }

    // Promise 20: "IndexOutOfBoundsException if there is no such DECK, or POSITION", which is named first.
    private static void promise20NoSuchDeckOrPosition() {
        ShuffleHall hall = laid(5, 6);
        for (int deck : new int[] {-1, 2, 3, 4, LEAST_INT, MOST_INT}) {
            CHECKS.refused("20: no deck " + deck, hall, INDEX, () -> hall.goes(deck, 0, 0, 0),
                    () -> hall.goes(deck, 0, 10, 0), () -> hall.goes(deck, 0, 0, -1),
                    () -> hall.goes(deck, -1, -1, -1));
        }
        for (int position : new int[] {-1, 5, 6, 16, LEAST_INT, MOST_INT}) {
            CHECKS.refused("20: no position " + position, hall, INDEX, () -> hall.goes(0, position, 0, 0),
                    () -> hall.goes(0, position, 10, 0), () -> hall.goes(0, position, 1, 0),
                    () -> hall.goes(0, position, 0, 5));
        }
        CHECKS.same("20: position 5 of the other deck", hall.goes(1, 5, 0, 5), 0);
    }

    // Promise 21: "those that are no SHUFFLE for it are left out": OUT and IN for odd n.
    private static void promise21LeftOut() {
        for (int n = 2; n <= 16; n++) {
            int best = laid(n).best(0);
            CHECKS.same("21: " + n + " cards, one of its shuffles", best >= (n % 2 == 0 ? 1 : 3) && best <= 5, true);
        }
        // Of 0 1 2: MONGE 1 0 2 and MILK 1 0 2 with one inversion, DEAL 2 0 1 with two.
        CHECKS.same("21: three cards", laid(3).best(0), 3);
        // Of 1 2 0: MONGE 2 1 0 with 3, MILK 2 1 0 with 3, DEAL 0 1 2 with none.
        CHECKS.same("21: three cards, cut", lying(1, 2, 0).best(0), 5);
    }

    // Promise 21: "of several the smallest".
    private static void promise21OfSeveralTheSmallest() {
        // 0 1: OUT, MILK and DEAL leave it; 1 0: IN and MONGE turn it round.
        CHECKS.same("21: OUT, MILK and DEAL", laid(2).best(0), 1);
        CHECKS.same("21: IN and MONGE", lying(1, 0).best(0), 2);
        // 0 1 2: MONGE and MILK have one inversion, DEAL has two.
        CHECKS.same("21: MONGE and MILK", laid(3).best(0), 3);
        // 2 0 1 3: OUT 2 1 0 3, MILK 0 1 2 3, MONGE 3 0 2 1, IN 1 2 3 0, DEAL 1 2 3 0.
        CHECKS.same("21: MILK alone", lying(2, 0, 1, 3).best(0), 4);
        // 1 0 2: MONGE and MILK have none, DEAL 2 1 0.
        CHECKS.same("21: none of either", lying(1, 0, 2).best(0), 3);
    }

    // Promise 21: "the KIND (of 1 to 5, DEAL with 2)": each one where it alone puts all in order.
    private static void promise21EachKind() {
        CHECKS.same("21: OUT", lying(0, 2, 4, 1, 3, 5).best(0), 1);
        CHECKS.same("21: IN", lying(1, 3, 5, 0, 2, 4).best(0), 2);
        CHECKS.same("21: MONGE", lying(3, 2, 4, 1, 5, 0).best(0), 3);
        CHECKS.same("21: MILK", lying(4, 2, 0, 1, 3, 5).best(0), 4);
        CHECKS.same("21: DEAL with 2", lying(2, 5, 1, 4, 0, 3).best(0), 5);
        // BACK would put this in order; MONGE and DEAL have 6 inversions, IN and MILK 9, OUT 12.
        CHECKS.same("21: no BACK", lying(5, 4, 3, 2, 1, 0).best(0), 3);
        // A CUT would put this in order; IN has 3 inversions, OUT and MONGE 6, DEAL 8, MILK 9.
        CHECKS.same("21: no CUT", lying(3, 4, 5, 0, 1, 2).best(0), 2);
        // It is not done, and faces are not asked.
        ShuffleHall hall = lying(3, 4, 5, 0, 1, 2);
        hall.turn(0, 2);
        CHECKS.same("21: faces aside", hall.best(0), 2);
        CHECKS.same("21: nothing is changed", cards(hall, 0), "3 4 5^ 0 1 2");
    }

    private static void promise21NoSuchDeck() {
        ShuffleHall hall = laid(5);
        CHECKS.refused("21: no such deck", hall, INDEX, () -> hall.best(1), () -> hall.best(-1), () -> hall.best(4),
                () -> hall.best(LEAST_INT), () -> hall.best(MOST_INT));
    }

    // Promise 22: "the smallest m": of a new deck's placement there are n + 1, 0 among them.
    private static void promise22NewDeck() {
        for (int n = 2; n <= 16; n++) {
            ShuffleHall hall = laid(n);
            CHECKS.same("22: new deck of " + n, hall.riffle(0), 0);
            hall.shuffle(0, 8, (1 << n) - 1, 1);
            CHECKS.same("22: the greatest m of " + n, hall.riffle(0), 0);
            hall.turn(0, n - 1);
            CHECKS.same("22: the placement alone, " + n, hall.riffle(0), 0);
        }
    }

    // Promise 22: each m that moves a card is the only one that makes its placement: all of them up to
    // 8 cards, and the smallest and the greatest for each n.
    private static void promise22SmallestAndGreatest() {
        for (int n = 2; n <= 16; n++) {
            int all = (1 << n) - 1;
            for (int m : new int[] {1, 2, all >> 1, all - 2, all}) {
                riffled(n, m);
            }
            for (int m = 0; n <= 8 && m <= all; m++) {
                riffled(n, m);
            }
        }
    }

    private static void riffled(int n, int m) {
        ShuffleHall hall = laid(n);
        hall.shuffle(0, 8, m, 1);
        // Where the ones stand behind all the zeros, each card is put back where it was.
        boolean moves = m != ((1 << n) - 1) - ((1 << (n - Integer.bitCount(m))) - 1);
        CHECKS.same("22: riffle of " + n + " with " + m, hall.riffle(0), moves ? m : 0);
    }

    // Promise 22: "NONE, if none does": with three runs or more.
    private static void promise22None() {
        for (int n = 3; n <= 16; n++) {
            for (int runs = 1; runs <= n; runs++) {
                ShuffleHall hall = laid(n);
                hall.shuffle(0, 6, runs, 1);
                // Behind the first two cards turned round, the bit 0 is 1: 1 comes first, then 0, then 2 ..
                int two = ((1 << n) - 1) - 2;
                CHECKS.same("22: " + runs + " runs of " + n, hall.riffle(0), runs == 1 ? 0 : runs == 2 ? two : NONE);
            }
        }
        CHECKS.same("22: two cards", lying(1, 0).riffle(0), 1);
        CHECKS.same("22: the last card stays", lying(2, 0, 1, 3).riffle(0), 9);
        CHECKS.same("22: three runs, most cards near their places", lying(0, 2, 1, 4, 3).riffle(0), NONE);
    }

    private static void promise22NoSuchDeck() {
        ShuffleHall hall = laid(5);
        CHECKS.refused("22: no such deck", hall, INDEX, () -> hall.riffle(1), () -> hall.riffle(-1),
                () -> hall.riffle(4), () -> hall.riffle(LEAST_INT), () -> hall.riffle(MOST_INT));
    }

    /** The values of promise 23, in its order, as the calls answer them. */
    private static List<Integer> values(ShuffleHall hall) {
        List<Integer> values = new ArrayList<>();
        for (int what = 0; what <= 5; what++) {
            values.add(hall.many(what));
        }
        for (int deck = 0; deck < hall.many(0); deck++) {
            for (int what = 0; what <= 10; what++) {
                values.add(hall.ofDeck(deck, what));
            }
            for (int what = 0; what <= 5; what++) {
                values.add(hall.keeps(deck, what) ? 1 : 0);
            }
            for (int position = 0; position < hall.ofDeck(deck, 0); position++) {
                values.add(hall.card(deck, position));
                values.add(hall.find(deck, hall.card(deck, position), true));
                values.add(hall.toTop(deck, position));
            }
            values.add(hall.best(deck));
            values.add(hall.riffle(deck));
            values.add(hall.alike(deck, 0));
        }
        for (int sequence = 0; sequence < hall.many(1); sequence++) {
            values.add(hall.ofSequence(sequence, 0));
            values.add(hall.period(sequence, 8));
        }
        return values;
    }

    /** The number d without any bound. */
    private static BigInteger whole(List<Integer> values) {
        BigInteger d = BigInteger.valueOf(58304);
        for (int value : values) {
            d = d.multiply(BigInteger.valueOf(31)).add(BigInteger.valueOf(value));
        }
        return d;
    }

    private static void digested(String what, ShuffleHall hall) {
        List<Integer> values = values(hall);
        CHECKS.same("23: " + what, hall.digest(), whole(values).longValue());
        CHECKS.same("23: " + what + ", nothing was changed", values(hall), values);
        CHECKS.same("23: " + what + ", once more", hall.digest(), whole(values).longValue());
    }

    // Promise 23: "A number d starts with 58304": with no deck and no sequence, six times 0.
    private static void promise23Empty() {
        CHECKS.same("23: new", new ShuffleHall().digest(), 58304L * 31 * 31 * 31 * 31 * 31 * 31);
        digested("new", new ShuffleHall());
        ShuffleHall sequence = new ShuffleHall();
        sequence.sequence();
        digested("a sequence without steps", sequence);
        digested("one deck", laid(2));
        digested("an odd deck", laid(3));
    }

    private static void promise23Full() {
        ShuffleHall hall = laid(7, 16, 2, 7);
        for (int i = 0; i < 4; i++) {
            hall.sequence();
            hall.step(i, 7, i + 1);
        }
        hall.step(1, 1, 0);
        hall.step(2, 0, 8);
        CHECKS.same("23: with a period of NONE", hall.period(2, 8), NONE);
        hall.perform(0, 0, 1);
        hall.shuffle(1, 8, 0xF0F, 1);
        hall.shuffle(2, 2, 0, 1);
        hall.shuffle(3, 5, 3, 2);
        hall.undo(0);
        hall.turn(3, 6);
        digested("four of each", hall);
    }

    // Promise 23: "which wraps around as a 64-bit integer".
    private static void promise23WrapsAround() {
        boolean below = false;
        boolean above = false;
        for (int n = 2; n <= 16; n++) {
            ShuffleHall hall = laid(n);
            digested("wrapped around, " + n, hall);
            CHECKS.same("23: it is beyond 64 bits, " + n, whole(values(hall)).bitLength() > 64, true);
            below = below || hall.digest() < 0;
            above = above || hall.digest() > 0;
        }
        CHECKS.same("23: it is below 0, too", below && above, true);
    }
}
