/**
 * The boundary cases of section 3 (what a deck is) and of the promises 9 to 15 and 18, sentence by
 * sentence.
 */
public final class AskEdgesTest extends TestBase {
    public static void main(String[] args) {
        promise9FirstAndLastPosition();
        promise10FirstAndLastCard();
        promise11NewDecks();
        promise11FirstAndLastWhat();
        promise11Cycles();
        promise11LeastCommonMultiple();
        promise11Inversions();
        promise11Runs();
        promise11RifflesNeeded();
        promise11Faces();
        promise11ShufflesEver();
        promise11LongestRise();
        promise12FirstAndLastWhat();
        promise12Pairs();
        promise12Fours();
        promise12Whole();
        promise12Even();
        promise12AsNew();
        promise12TogetherNLessOne();
        promise13FirstAndLastRiffles();
        promise13PowerLessThanRuns();
        promise13InThisOrder();
        promise14Far();
        promise15PositionsThatBothHave();
        promise15FaceToTheSameSide();
        promise15NoSuchDeck();
        promise18Empty();
        promise18Full();
        promise18TakenBack();
        CHECKS.end("AskEdgesTest");
    }

    /** A deck whose first cards lie reversed, as many as are told; the others as new. */
    private static ShuffleHall back(int n, int reversed) {
        ShuffleHall hall = laid(n);
        hall.shuffle(0, 6, reversed, 1);
        return hall;
    }

    // Promise 9: "if there is no such DECK, or POSITION"; section 1: "POSITIONS are counted from 0, the top".
    private static void promise9FirstAndLastPosition() {
        for (int n = 2; n <= 16; n++) {
            ShuffleHall hall = laid(n, 16);
            hall.shuffle(0, 0, 1, 1);
            int size = n;
            CHECKS.same("9: top of " + n, hall.card(0, 0), 1);
            CHECKS.same("9: lowest of " + n, hall.card(0, n - 1), 0);
            CHECKS.same("9: one above the lowest of " + n, hall.card(0, n - 2), n - 1);
            CHECKS.refused("9: no such position of " + n, hall, INDEX, () -> hall.card(0, size),
                    () -> hall.card(0, -1), () -> hall.card(0, LEAST_INT), () -> hall.card(0, MOST_INT));
        }
        ShuffleHall hall = laid(3, 2);
        CHECKS.refused("9: no such deck", hall, INDEX, () -> hall.card(2, 0), () -> hall.card(-1, 0),
                () -> hall.card(4, 0), () -> hall.card(LEAST_INT, 0), () -> hall.card(MOST_INT, 0),
                () -> hall.card(2, -1), () -> hall.card(1, 2));
    }

    // Promise 10: "if there is no such DECK, or CARD of it"; "whether its FACE is up (1, otherwise 0)".
    private static void promise10FirstAndLastCard() {
        for (int n = 2; n <= 16; n++) {
            ShuffleHall hall = laid(n, 16);
            hall.shuffle(0, 0, 1, 1);
            hall.turn(0, 0);
            int size = n;
            CHECKS.same("10: first card of " + n, hall.find(0, 0, false), n - 1);
            CHECKS.same("10: last card of " + n, hall.find(0, n - 1, false), n - 2);
            CHECKS.same("10: face that is up, of " + n, hall.find(0, 1, true), 1);
            CHECKS.same("10: face that is down, of " + n, hall.find(0, 0, true), 0);
            CHECKS.refused("10: no such card of " + n, hall, INDEX, () -> hall.find(0, size, false),
                    () -> hall.find(0, size, true), () -> hall.find(0, -1, false), () -> hall.find(0, -1, true),
                    () -> hall.find(0, LEAST_INT, true), () -> hall.find(0, MOST_INT, false));
        }
        ShuffleHall hall = laid(3, 2);
        CHECKS.refused("10: no such deck", hall, INDEX, () -> hall.find(2, 0, false), () -> hall.find(-1, 0, true),
                () -> hall.find(4, 0, false), () -> hall.find(LEAST_INT, 0, true),
                () -> hall.find(MOST_INT, 0, false), () -> hall.find(2, -1, true), () -> hall.find(1, 2, false));
    }

    private static void ofDeck(String what, ShuffleHall hall, int... due) {
        for (int i = 0; i < due.length; i++) {
            CHECKS.same("11: " + what + ", what " + i, hall.ofDeck(0, i), due[i]);
        }
    }

    // Section 3: "RUNS .. (1 for a new DECK)"; promise 11: "10 .. n for a new DECK".
    private static void promise11NewDecks() {
        for (int n = 2; n <= 16; n++) {
            ofDeck("new deck of " + n, laid(n), n, n, n, 1, 0, 1, 0, 0, 0, 1, n);
        }
        ofDeck("two cards", back(2, 2), 2, 1, 0, 2, 1, 2, 1, 0, 1, 2, 1);
        ofDeck("16 cards reversed", back(16, 16), 16, 8, 0, 2, 120, 16, 4, 0, 1, 2, 1);
    }

    // Promise 11: "IllegalArgumentException if what is not 0 to 10".
    private static void promise11FirstAndLastWhat() {
        ShuffleHall hall = laid(5);
        CHECKS.same("11: what 0", hall.ofDeck(0, 0), 5);
        CHECKS.same("11: what 10", hall.ofDeck(0, 10), 5);
        CHECKS.refused("11: what", hall, ARGUMENT, () -> hall.ofDeck(0, -1), () -> hall.ofDeck(0, 11),
                () -> hall.ofDeck(0, LEAST_INT), () -> hall.ofDeck(0, MOST_INT));
        CHECKS.refused("11: no such deck, named first", hall, INDEX, () -> hall.ofDeck(1, 0),
                () -> hall.ofDeck(-1, 0), () -> hall.ofDeck(4, 10), () -> hall.ofDeck(LEAST_INT, 0),
                () -> hall.ofDeck(MOST_INT, 0), () -> hall.ofDeck(1, 11), () -> hall.ofDeck(-1, -1));
    }

    // Promise 11: "1 CYCLES (FIXED ones, too), 2 FIXED ones .. 9 the length of the longest CYCLE".
    private static void promise11Cycles() {
        for (int n = 2; n <= 16; n++) {
            ShuffleHall hall = laid(n);
            hall.shuffle(0, 0, 1, 1);
            CHECKS.same("11: one cycle of all " + n, hall.ofDeck(0, 1), 1);
            CHECKS.same("11: none fixed of " + n, hall.ofDeck(0, 2), 0);
            CHECKS.same("11: the longest one of " + n, hall.ofDeck(0, 9), n);
            CHECKS.same("11: times of " + n, hall.ofDeck(0, 3), n);
        }
        ShuffleHall one = lying(0, 1, 2, 4, 3);
        CHECKS.same("11: fixed ones, too", one.ofDeck(0, 1), 4);
        CHECKS.same("11: fixed ones", one.ofDeck(0, 2), 3);
        CHECKS.same("11: the longest is the last", one.ofDeck(0, 9), 2);
        CHECKS.same("11: the longest is the first", lying(1, 2, 0, 4, 3).ofDeck(0, 9), 3);
        CHECKS.same("11: only the middle one is fixed", lying(4, 3, 2, 1, 0).ofDeck(0, 2), 1);
        CHECKS.same("11: two of two, one fixed", lying(4, 3, 2, 1, 0).ofDeck(0, 1), 3);
    }

    // Promise 11: "the least common multiple of how long CYCLES are".
    private static void promise11LeastCommonMultiple() {
        CHECKS.same("11: of 1 and 1", laid(2).ofDeck(0, 3), 1);
        CHECKS.same("11: of 2, 2 and 1", lying(1, 0, 3, 2, 4).ofDeck(0, 3), 2);
        CHECKS.same("11: of 2 and 3", lying(1, 0, 3, 4, 2).ofDeck(0, 3), 6);
        CHECKS.same("11: of 2 and 4", lying(1, 0, 3, 4, 5, 2).ofDeck(0, 3), 4);
        CHECKS.same("11: of 4 and 2", lying(1, 2, 3, 0, 5, 4).ofDeck(0, 3), 4);
        CHECKS.same("11: of 4 and 6", lying(1, 2, 3, 0, 5, 6, 7, 8, 9, 4).ofDeck(0, 3), 12);
        // The greatest one that 16 cards have.
        CHECKS.same("11: of 4, 5 and 7",
                lying(1, 2, 3, 0, 5, 6, 7, 8, 4, 10, 11, 12, 13, 14, 15, 9).ofDeck(0, 3), 140);
        CHECKS.same("11: of 2, 3, 4 and 7",
                lying(1, 0, 3, 4, 2, 6, 7, 8, 5, 10, 11, 12, 13, 14, 15, 9).ofDeck(0, 3), 84);
    }

    // Section 3: "An INVERSION is a pair of POSITIONS with a greater CARD above a smaller one."
    private static void promise11Inversions() {
        for (int n = 2; n <= 16; n++) {
            CHECKS.same("11: the most inversions of " + n, back(n, n).ofDeck(0, 4), n * (n - 1) / 2);
            CHECKS.same("11: one inversion of " + n, back(n, 2).ofDeck(0, 4), 1);
        }
        CHECKS.same("11: not only neighbours", lying(2, 0, 1, 3).ofDeck(0, 4), 2);
        CHECKS.same("11: greater cards below are none", lying(0, 3, 1, 2).ofDeck(0, 4), 2);
        CHECKS.same("11: the last two", lying(0, 1, 2, 4, 3).ofDeck(0, 4), 1);
    }

    // Section 3: "A RISING RUN is a row, as long as it goes .. (beside it or not; each CARD is in one)".
    private static void promise11Runs() {
        for (int n = 2; n <= 16; n++) {
            for (int reversed = 2; reversed <= n; reversed++) {
                CHECKS.same("11: " + reversed + " of " + n + " reversed", back(n, reversed).ofDeck(0, 5), reversed);
            }
        }
        CHECKS.same("11: beside it or not", lying(0, 3, 1, 4, 2, 5).ofDeck(0, 5), 2);
        CHECKS.same("11: n less 1 is not followed by 0", lying(3, 0, 1, 2).ofDeck(0, 5), 2);
        CHECKS.same("11: of k, k + 1, not of k, k + 2", lying(1, 3, 0, 2).ofDeck(0, 5), 3);
        CHECKS.same("11: the last card alone", lying(4, 0, 1, 2, 3).ofDeck(0, 5), 2);
        CHECKS.same("11: the first card alone", lying(1, 2, 3, 4, 0).ofDeck(0, 5), 2);
    }

    // Section 3: "RIFFLES that it needs: the fewest r with 2^r of RUNS or more".
    private static void promise11RifflesNeeded() {
        int[] due = {0, 1, 2, 2, 3, 3, 3, 3, 4, 4, 4, 4, 4, 4, 4, 4};
        for (int runs = 1; runs <= 16; runs++) {
            ShuffleHall hall = back(16, runs);
            CHECKS.same("11: there are " + runs + " runs", hall.ofDeck(0, 5), runs);
            CHECKS.same("11: riffles for " + runs + " runs", hall.ofDeck(0, 6), due[runs - 1]);
        }
    }

    // Promise 11: "7 FACES that are up": none, one, all.
    private static void promise11Faces() {
        for (int n = 2; n <= 16; n++) {
            ShuffleHall hall = laid(n, n);
            hall.turn(0, n - 1);
            CHECKS.same("11: one face of " + n, hall.ofDeck(0, 7), 1);
            hall.turn(0, n - 1);
            CHECKS.same("11: no face of " + n, hall.ofDeck(0, 7), 0);
            hall.shuffle(0, 7, n, 1);
            CHECKS.same("11: all faces of " + n, hall.ofDeck(0, 7), n);
            CHECKS.same("11: not those of another deck", hall.ofDeck(1, 7), 0);
        }
    }

    // Promise 11: "8 SHUFFLES ever (those that were taken back not)".
    private static void promise11ShufflesEver() {
        ShuffleHall hall = laid(5, 5);
        hall.sequence();
        for (int i = 1; i <= 41; i++) {
            hall.shuffle(0, 0, 1, 9);
            CHECKS.same("11: shuffles behind " + i, hall.ofDeck(0, 8), i);
        }
        hall.perform(0, 0, 9);
        CHECKS.same("11: a sequence, too", hall.ofDeck(0, 8), 42);
        hall.undo(0);
        hall.undo(0);
        CHECKS.same("11: two less", hall.ofDeck(0, 8), 40);
        CHECKS.same("11: none of the other deck", hall.ofDeck(1, 8), 0);
        hall.undo(1);
        CHECKS.same("11: NONE is no one less", hall.ofDeck(1, 8), 0);
    }

    // Promise 11: "10 the greatest number of POSITIONS, going down, at each of which a greater CARD lies
    // than at the one before (others between may be passed over; the first one counts ..)".
    private static void promise11LongestRise() {
        CHECKS.same("11: others between", lying(0, 3, 1, 2).ofDeck(0, 10), 3);
        CHECKS.same("11: the first one counts", lying(2, 1, 0).ofDeck(0, 10), 1);
        CHECKS.same("11: not from the top one on", lying(3, 0, 1, 2).ofDeck(0, 10), 3);
        CHECKS.same("11: not the greedy one", lying(0, 4, 1, 5, 2, 3).ofDeck(0, 10), 4);
        CHECKS.same("11: not the latest one", lying(2, 3, 4, 0, 1).ofDeck(0, 10), 3);
        CHECKS.same("11: any greater card, not the next number", lying(0, 2, 4, 1, 3, 5).ofDeck(0, 10), 4);
        CHECKS.same("11: the whole deck but one", lying(15, 0, 1, 2, 3, 4, 5, 6, 7, 8, 9, 10, 11, 12, 13, 14)
                .ofDeck(0, 10), 15);
        for (int n = 2; n <= 16; n++) {
            CHECKS.same("11: one of those reversed, and all behind, " + n, back(n, n / 2 + 1).ofDeck(0, 10), n - n / 2);
        }
    }

    private static void keeps(String what, int number, boolean due, int... order) {
        CHECKS.same("12: " + what, lying(order).keeps(0, number), due);
    }

    // Promise 12: "IllegalArgumentException if what is not 0 to 5".
    private static void promise12FirstAndLastWhat() {
        for (int n = 2; n <= 16; n++) {
            ShuffleHall hall = laid(n);
            for (int what = 0; what <= 5; what++) {
                CHECKS.same("12: new deck of " + n + ", what " + what, hall.keeps(0, what), true);
            }
        }
        ShuffleHall hall = laid(5);
        CHECKS.refused("12: what", hall, ARGUMENT, () -> hall.keeps(0, -1), () -> hall.keeps(0, 6),
                () -> hall.keeps(0, LEAST_INT), () -> hall.keeps(0, MOST_INT));
        CHECKS.refused("12: no such deck, named first", hall, INDEX, () -> hall.keeps(1, 0), () -> hall.keeps(-1, 0),
                () -> hall.keeps(4, 5), () -> hall.keeps(LEAST_INT, 0), () -> hall.keeps(MOST_INT, 0),
                () -> hall.keeps(1, 6), () -> hall.keeps(-1, -1));
    }

    // Section 3: "PAIRS, if the POSITIONS 2 k and 2 k + 1 have unlike COLOURS, for all k for which both are there".
    private static void promise12Pairs() {
        keeps("pairs of two", 0, true, 1, 0);
        keeps("a single one at the end", 0, true, 1, 2, 0);
        keeps("the first pair", 0, false, 0, 2, 1);
        keeps("the first pair of four", 0, false, 0, 2, 1, 3);
        keeps("the last pair alone", 0, false, 0, 1, 3, 2, 4, 6, 5);
        keeps("the last pair of six", 0, false, 1, 0, 2, 4, 3, 5);
        keeps("not of 2 k + 1 and 2 k + 2", 0, true, 0, 1, 3, 2, 4, 5);
        keeps("only one pair is wrong of eight", 0, false, 0, 1, 2, 3, 4, 6, 5, 7);
    }

    // Section 3: "FOURS, if the POSITIONS 4 k to 4 k + 3 have all four SUITS, for all k for which all are there".
    private static void promise12Fours() {
        keeps("two are no four", 1, true, 1, 0);
        keeps("three are no four", 1, true, 2, 0, 1);
        keeps("four", 1, true, 2, 0, 3, 1);
        keeps("one behind four", 1, true, 4, 3, 2, 1, 0);
        keeps("0 and 4 are of one suit", 1, false, 0, 4, 2, 1, 3);
        keeps("all but the suit 0", 1, false, 1, 2, 3, 5, 0, 4, 6);
        keeps("all but the suit 1", 1, false, 0, 2, 3, 6, 1, 4, 5);
        keeps("all but the suit 2", 1, false, 0, 1, 3, 4, 2, 5, 6);
        keeps("all but the suit 3", 1, false, 0, 1, 2, 5, 3, 4, 6);
        keeps("the last of four positions counts", 1, false, 0, 1, 2, 4, 3);
        keeps("three behind four", 1, true, 1, 2, 3, 4, 0, 5, 6);
        keeps("both fours", 1, true, 7, 5, 4, 6, 1, 3, 0, 2);
        keeps("the second four alone", 1, false, 0, 1, 2, 3, 4, 8, 5, 6, 7);
        keeps("the last four alone", 1, false, 0, 1, 2, 3, 4, 5, 6, 7, 8, 9, 10, 12, 11);
        keeps("not of 4 k + 1 to 4 k + 4", 1, true, 3, 1, 2, 0, 7, 6, 5, 4);
        keeps("colours are not enough", 1, false, 0, 1, 4, 5, 2, 3, 6, 7);
    }

    // Section 3: "WHOLE, if for each j of 1 to n the CARDS of the first j POSITIONS are, in any order, j
    // numbers that follow each other (0 does not follow n less 1)".
    private static void promise12Whole() {
        keeps("in any order", 2, true, 2, 1, 3, 0);
        keeps("reversed", 2, true, 4, 3, 2, 1, 0);
        keeps("two", 2, true, 1, 0);
        keeps("0 behind n less 1", 2, false, 3, 0, 1, 2);
        keeps("n less 1 behind 0", 2, false, 0, 3, 2, 1);
        keeps("0 and n less 1 of three", 2, false, 2, 0, 1);
        keeps("j of two", 2, false, 0, 2, 1);
        keeps("j of n less 1 alone", 2, false, 1, 0, 3, 2);
        keeps("j in the middle alone", 2, false, 2, 3, 5, 4, 1, 0);
        keeps("both ways by turns", 2, true, 3, 4, 2, 5, 1, 6, 0);
    }

    // Section 3: "It is EVEN, if INVERSIONS are even": none is even, one is not.
    private static void promise12Even() {
        for (int n = 2; n <= 16; n++) {
            CHECKS.same("12: even, one inversion of " + n, back(n, 2).keeps(0, 3), false);
            CHECKS.same("12: even, all of " + n, back(n, n).keeps(0, 3), n % 4 < 2);
        }
        keeps("two inversions", 3, true, 1, 2, 0);
        keeps("three inversions", 3, false, 2, 1, 0);
    }

    // Promise 12: "4 whether it is as a new one (FACES aside)".
    private static void promise12AsNew() {
        ShuffleHall hall = laid(4);
        hall.turn(0, 0);
        hall.turn(0, 3);
        CHECKS.same("12: faces aside", hall.keeps(0, 4), true);
        hall.shuffle(0, 7, 4, 2);
        CHECKS.same("12: shuffles aside", hall.keeps(0, 4), true);
        keeps("the last two", 4, false, 0, 1, 3, 2);
        keeps("the first two", 4, false, 1, 0, 2, 3);
        keeps("two of two", 4, false, 1, 0);
    }

    // Promise 12: "5 whether all POSITIONS k and n less 1 less k have CARDS of n less 1 together".
    private static void promise12TogetherNLessOne() {
        keeps("two of two", 5, true, 1, 0);
        keeps("reversed, with a middle one", 5, true, 2, 1, 0);
        keeps("another one in the middle", 5, false, 0, 2, 1);
        keeps("the outer ones alone", 5, false, 0, 2, 4, 3, 1, 5);
        keeps("the inner ones alone", 5, false, 4, 0, 2, 3, 1, 5);
        keeps("others together", 5, true, 1, 5, 2, 3, 0, 4);
        keeps("with a middle one", 5, true, 4, 1, 2, 3, 0);
        keeps("with another middle one", 5, false, 4, 1, 3, 2, 0);
    }

    // Promise 13: "IllegalArgumentException if riffles is not 0 to 12".
    private static void promise13FirstAndLastRiffles() {
        ShuffleHall hall = laid(2);
        CHECKS.same("13: none", hall.chance(0, 0), 1.0);
        CHECKS.same("13: one", hall.chance(0, 1), 1.0 * 2 / 1 / 2 * 3 / 2 / 2);
        CHECKS.same("13: twelve", hall.chance(0, 12), 1.0 * 4096 / 1 / 4096 * 4097 / 2 / 4096);
        CHECKS.refused("13: riffles", hall, ARGUMENT, () -> hall.chance(0, -1), () -> hall.chance(0, 13),
                () -> hall.chance(0, 31), () -> hall.chance(0, 32), () -> hall.chance(0, 64),
                () -> hall.chance(0, LEAST_INT), () -> hall.chance(0, MOST_INT));
        CHECKS.refused("13: no such deck, named first", hall, INDEX, () -> hall.chance(1, 0),
                () -> hall.chance(-1, 0), () -> hall.chance(4, 12), () -> hall.chance(LEAST_INT, 0),
                () -> hall.chance(MOST_INT, 0), () -> hall.chance(1, 13), () -> hall.chance(-1, -1));
    }

    // Section 3: "0.0 at once, if 2^r is less than RUNS"; if it is as many, it is not 0.0.
    private static void promise13PowerLessThanRuns() {
        for (int n = 2; n <= 16; n++) {
            CHECKS.same("13: new deck, no riffle, " + n, laid(n).chance(0, 0), 1.0);
            for (int runs = 2; runs <= n; runs++) {
                ShuffleHall hall = back(n, runs);
                for (int r = 0; r <= 12; r++) {
                    double chance = hall.chance(0, r);
                    String what = "13: " + runs + " runs of " + n + ", " + r + " riffles";
                    if (1 << r < runs) {
                        CHECKS.same(what, chance, 0.0);
                    } else {
                        CHECKS.same(what + ", more than 0.0", chance > 0.0 && chance < 1.0, true);
                    }
                }
            }
        }
        // As many as RUNS: 1, 2, 3 .. n, divided by 1, 2, 3 .. n: what is left is 2^-(r n), without rounding.
        CHECKS.same("13: 2 runs, 1 riffle", back(2, 2).chance(0, 1), 0.25);
        CHECKS.same("13: 4 runs, 2 riffles", back(4, 4).chance(0, 2), 1.0 / 256);
        CHECKS.same("13: 3 runs, 1 riffle", back(4, 3).chance(0, 1), 0.0);
        CHECKS.same("13: 5 runs, 2 riffles", back(5, 5).chance(0, 2), 0.0);
    }

    // Section 3: "times .., divided by i, divided by 2^r (in this order)": to the last bit.
    private static void promise13InThisOrder() {
        boolean matters = false;
        for (int runs = 1; runs <= 16; runs++) {
            ShuffleHall hall = back(16, runs);
            for (int r = 4; r <= 12; r++) {
                double power = 1 << r;
                double due = 1.0;
                double dividedFirst = 1.0;
                for (int i = 1; i <= 16; i++) {
                    due = due * (power - runs + i);
                    due = due / i;
                    due = due / power;
                    dividedFirst = dividedFirst / i * (power - runs + i) / power;
                }
                matters = matters || due != dividedFirst;
                CHECKS.same("13: " + runs + " runs, " + r + " riffles", hall.chance(0, r), due);
            }
        }
        CHECKS.same("13: the order can be seen", matters, true);
    }

    // Promise 14: "without its sign, divided by n, not rounded".
    private static void promise14Far() {
        for (int n = 2; n <= 16; n++) {
            CHECKS.same("14: new deck of " + n, laid(n).far(0), 0.0);
            CHECKS.same("14: two cards of " + n, back(n, 2).far(0), 2.0 / n);
            ShuffleHall cut = laid(n);
            cut.shuffle(0, 0, 1, 1);
            CHECKS.same("14: cut, " + n, cut.far(0), 2.0 * (n - 1) / n);
            CHECKS.same("14: reversed, " + n, back(n, n).far(0), (double) (n * n / 2) / n);
        }
        ShuffleHall hall = laid(3);
        CHECKS.refused("14: no such deck", hall, INDEX, () -> hall.far(1), () -> hall.far(-1), () -> hall.far(4),
                () -> hall.far(LEAST_INT), () -> hall.far(MOST_INT));
    }

    // Promise 15: "how many POSITIONS that both have have the same CARD"; "another one, or the same".
    private static void promise15PositionsThatBothHave() {
        ShuffleHall hall = laid(2, 16, 7, 16);
        int[] sizes = {2, 16, 7, 16};
        for (int one = 0; one < 4; one++) {
            for (int other = 0; other < 4; other++) {
                CHECKS.same("15: new " + one + " and " + other, hall.alike(one, other),
                        Math.min(sizes[one], sizes[other]));
            }
        }
        hall.shuffle(1, 6, 7, 1);
        CHECKS.same("15: the middle one of 7 alone", hall.alike(1, 2), 1);
        CHECKS.same("15: and those behind", hall.alike(3, 1), 10);
        CHECKS.same("15: none of two", hall.alike(0, 1), 0);
        hall.shuffle(1, 0, 1, 1);
        CHECKS.same("15: the same is alike", hall.alike(1, 1), 16);
    }

    // Promise 15: ".. with the FACE to the same side": both up, too.
    private static void promise15FaceToTheSameSide() {
        ShuffleHall hall = laid(3, 5);
        hall.turn(0, 2);
        CHECKS.same("15: one up, one down", hall.alike(0, 1), 2);
        CHECKS.same("15: one down, one up", hall.alike(1, 0), 2);
        hall.turn(1, 2);
        CHECKS.same("15: both up", hall.alike(0, 1), 3);
        hall.turn(1, 4);
        CHECKS.same("15: a position that one has alone", hall.alike(0, 1), 3);
        hall.shuffle(0, 7, 3, 1);
        hall.shuffle(1, 7, 3, 1);
        CHECKS.same("15: turned both", hall.alike(0, 1), 3);
    }

    private static void promise15NoSuchDeck() {
        ShuffleHall hall = laid(5, 5);
        for (int deck : new int[] {-1, 2, 3, 4, LEAST_INT, MOST_INT}) {
            CHECKS.refused("15: no deck " + deck, hall, INDEX, () -> hall.alike(0, deck), () -> hall.alike(deck, 0),
                    () -> hall.alike(deck, 1), () -> hall.alike(1, deck), () -> hall.alike(deck, deck));
        }
    }

    private static void many(String what, ShuffleHall hall, int... due) {
        for (int i = 0; i <= 5; i++) {
            CHECKS.same("18: " + what + ", what " + i, hall.many(i), due[i]);
        }
    }

    // Promise 18: "IllegalArgumentException if what is not 0 to 5"; nothing there at first.
    private static void promise18Empty() {
        ShuffleHall hall = new ShuffleHall();
        many("new", hall, 0, 0, 0, 0, 0, 0);
        CHECKS.refused("18: what", hall, ARGUMENT, () -> hall.many(-1), () -> hall.many(6), () -> hall.many(7),
                () -> hall.many(LEAST_INT), () -> hall.many(MOST_INT));
        hall.deck(2);
        many("one deck", hall, 1, 0, 0, 0, 2, 0);
        hall.sequence();
        many("one sequence", hall, 1, 1, 0, 0, 2, 0);
        hall.turn(0, 1);
        many("one face", hall, 1, 1, 0, 0, 2, 1);
        hall.step(0, 0, 1);
        many("a step", hall, 1, 1, 0, 0, 2, 1);
    }

    private static void promise18Full() {
        ShuffleHall hall = laid(16, 16, 16, 16);
        for (int i = 0; i < 4; i++) {
            hall.sequence();
            hall.shuffle(i, 7, 16, 1);
        }
        many("all that there can be", hall, 4, 4, 4, 0, 64, 64);
        CHECKS.refused("18: a fifth of each", hall, STATE, () -> hall.deck(16), () -> hall.sequence());
        hall.turn(3, 0);
        hall.perform(3, 0, 1000000);
        hall.shuffle(3, 0, 1, 1000000);
        many("of the last deck", hall, 4, 4, 6, 0, 64, 63);
        CHECKS.refused("18: what", hall, ARGUMENT, () -> hall.many(-1), () -> hall.many(6));
    }

    // Promise 18: "2 SHUFFLES of all DECKS (taken back ones not), 3 how often one was taken back ever".
    private static void promise18TakenBack() {
        ShuffleHall hall = laid(5, 6);
        hall.undo(0);
        many("NONE is none taken back", hall, 2, 0, 0, 0, 11, 0);
        hall.shuffle(0, 0, 1, 7);
        hall.shuffle(1, 7, 3, 1);
        hall.undo(1);
        many("one of two", hall, 2, 0, 1, 1, 11, 0);
        hall.undo(0);
        hall.undo(0);
        many("both", hall, 2, 0, 0, 2, 11, 0);
        hall.shuffle(0, 0, 1, 1);
        many("ever", hall, 2, 0, 1, 2, 11, 0);
        hall.undo(0);
        many("the same deck again", hall, 2, 0, 0, 3, 11, 0);
        for (int i = 0; i < 41; i++) {
            hall.shuffle(1, 0, 1, 1);
        }
        many("one that fell away is not taken back", hall, 2, 0, 41, 3, 11, 0);
    }
}
