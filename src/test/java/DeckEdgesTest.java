/**
 * The boundary cases of section 1 (decks and shuffles) and of the promises 1 to 5, sentence by
 * sentence: what is at the edge is done, what is next to it is refused.
 */
public final class DeckEdgesTest extends TestBase {
    private static final String[] KINDS = {
        "CUT", "OUT", "IN", "MONGE", "MILK", "DEAL", "BACK", "OVER", "RIFFLE", "PACKETS",
    };

    public static void main(String[] args) {
        promise1EmptyTable();
        promise1EachObjectForItself();
        promise1LastOf512Calls();
        promise2FewestAndMostCards();
        promise2AtMostFourDecks();
        promise3RangeOfEachKind();
        promise3NoSuchKind();
        promise3ShufflesThatLeaveAll();
        promise3CutEdges();
        promise3OutAndInEdges();
        promise3MongeEdges();
        promise3MilkEdges();
        promise3DealEdges();
        promise3BackAndOverEdges();
        promise3RiffleEdges();
        promise3PacketsEdges();
        promise3FacesByOverAlone();
        promise3OftenEdges();
        promise3OftenOneAfterAnother();
        promise3NoSuchDeck();
        promise4NothingToTakeBack();
        promise4ExactlyForty();
        promise4TheFortyFirst();
        promise4FallenAwayForGood();
        promise4TwiceRound();
        promise4FortyForEachDeck();
        promise4OftenAndSequencesAsOne();
        promise5FirstAndLastPosition();
        promise5NotTakenBackByItself();
        promise5FacesAsAheadOfTheShuffle();
        CHECKS.end("DeckEdgesTest");
    }

    private static void makes(int n, int kind, int number, String due) {
        ShuffleHall hall = laid(n);
        String what = "3: " + KINDS[kind] + " of " + n + " with " + number;
        int top = hall.shuffle(0, kind, number, 1);
        CHECKS.same(what, cards(hall, 0), due);
        CHECKS.same(what + ", top", top, hall.card(0, 0));
    }

    // Promise 1: "Creates a table without DECKS."
    private static void promise1EmptyTable() {
        ShuffleHall hall = new ShuffleHall();
        for (int what = 0; what <= 5; what++) {
            CHECKS.same("1: many " + what, hall.many(what), 0);
        }
        CHECKS.refused("1: no deck", hall, INDEX, () -> hall.shuffle(0, 0, 0, 1), () -> hall.undo(0),
                () -> hall.turn(0, 0), () -> hall.card(0, 0), () -> hall.find(0, 0, false), () -> hall.ofDeck(0, 0),
                () -> hall.keeps(0, 0), () -> hall.chance(0, 0), () -> hall.far(0), () -> hall.alike(0, 0),
                () -> hall.toTop(0, 0), () -> hall.goes(0, 0, 0, 0), () -> hall.best(0), () -> hall.riffle(0));
        CHECKS.refused("1: no sequence", hall, INDEX, () -> hall.step(0, 0, 0), () -> hall.perform(0, 0, 1),
                () -> hall.ofSequence(0, 0), () -> hall.period(0, 2));
    }

    private static void promise1EachObjectForItself() {
        ShuffleHall one = laid(5);
        one.shuffle(0, 0, 1, 1);
        one.sequence();
        ShuffleHall other = new ShuffleHall();
        CHECKS.same("1: decks of another object", other.many(0), 0);
        CHECKS.same("1: sequences of another object", other.many(1), 0);
        other.deck(5);
        CHECKS.same("1: its deck is new", cards(other, 0), "0 1 2 3 4");
        CHECKS.same("1: nothing of another object to take back", other.undo(0), NONE);
        CHECKS.same("1: the first one has its own", cards(one, 0), "1 2 3 4 0");
    }

    // "An object is used for at most 512 calls after it has been made": the 512th is answered, too.
    private static void promise1LastOf512Calls() {
        ShuffleHall hall = new ShuffleHall();
        hall.deck(16);
        for (int i = 1; i <= 509; i++) {
            hall.shuffle(0, 0, 1, 1);
        }
        CHECKS.same("1: call 511", hall.ofDeck(0, 8), 509);
        CHECKS.same("1: call 512", hall.undo(0), 508 % 16);
    }

    // Promise 2: "IllegalArgumentException if cards is not 2 to 16"; section 1: "CARDS are numbers,
    // at first 0 to n less 1 from the top on", "with its FACE down (at first)".
    private static void promise2FewestAndMostCards() {
        ShuffleHall small = new ShuffleHall();
        CHECKS.refused("2: not 2 to 16", small, ARGUMENT, () -> small.deck(1), () -> small.deck(17),
                () -> small.deck(0), () -> small.deck(-1), () -> small.deck(-2), () -> small.deck(-16),
                () -> small.deck(18), () -> small.deck(LEAST_INT), () -> small.deck(MOST_INT));
        CHECKS.same("2: a refused deck uses up no number", small.deck(2), 0);
        for (int n = 2; n <= 16; n++) {
            ShuffleHall hall = new ShuffleHall();
            int size = n;
            CHECKS.same("2: deck of " + n, hall.deck(n), 0);
            CHECKS.same("2: its cards, " + n, cards(hall, 0), row(0, n - 1));
            CHECKS.same("2: its n, " + n, hall.ofDeck(0, 0), n);
            CHECKS.same("2: all faces down, " + n, hall.ofDeck(0, 7), 0);
            CHECKS.same("2: no shuffle yet, " + n, hall.ofDeck(0, 8), 0);
            CHECKS.refused("2: position n, " + n, hall, INDEX, () -> hall.card(0, size));
        }
    }

    // Promise 2: "IllegalStateException if there are 4"; section 1: "at most 4, numbered from 0".
    private static void promise2AtMostFourDecks() {
        ShuffleHall hall = new ShuffleHall();
        for (int i = 0; i < 4; i++) {
            CHECKS.same("2: number of deck " + i, hall.deck(5 + i), i);
        }
        CHECKS.refused("2: a fifth", hall, STATE, () -> hall.deck(2), () -> hall.deck(5), () -> hall.deck(16));
        CHECKS.refused("2: a fifth of wrong size, named first", hall, ARGUMENT, () -> hall.deck(1),
                () -> hall.deck(17), () -> hall.deck(LEAST_INT), () -> hall.deck(MOST_INT));
        for (int i = 0; i < 4; i++) {
            CHECKS.same("2: deck stays " + i, cards(hall, i), row(0, 4 + i));
        }
        CHECKS.same("2: there are 4", hall.many(0), 4);
        CHECKS.refused("2: no deck 4", hall, INDEX, () -> hall.card(4, 0));
    }

    // Promise 3: "IllegalArgumentException if that is no SHUFFLE for it (section 1)": each "m of .. to
    // .." and "m is 0" and "n is even", for each n.
    private static void promise3RangeOfEachKind() {
        for (int n = 2; n <= 16; n++) {
            for (int kind = 0; kind <= 9; kind++) {
                ShuffleHall hall = laid(n);
                int of = kind;
                int done = 0;
                String what = "3: " + KINDS[kind] + " of " + n;
                for (int m : edges(kind, n)) {
                    hall.shuffle(0, kind, m, 1);
                    done++;
                    CHECKS.same(what + " with " + m + " is done", hall.ofDeck(0, 8), done);
                }
                for (int m : beyond(kind, n)) {
                    CHECKS.refused(what + " with " + m, hall, ARGUMENT, () -> hall.shuffle(0, of, m, 1));
                }
            }
        }
    }

    private static void promise3NoSuchKind() {
        ShuffleHall hall = laid(6);
        for (int kind : new int[] {-1, 10, 11, LEAST_INT, MOST_INT}) {
            CHECKS.refused("3: kind " + kind, hall, ARGUMENT, () -> hall.shuffle(0, kind, 0, 1),
                    () -> hall.shuffle(0, kind, 2, 1));
        }
    }

    // Section 1: the m of each kind with which the deck stays as it is.
    private static void promise3ShufflesThatLeaveAll() {
        for (int n = 2; n <= 16; n++) {
            int[][] leaving = {{0, 0}, {6, 0}, {6, 1}, {7, 0}, {8, 0}, {8, (1 << n) - 1}, {8, 1 << (n - 1)}, {9, 0}};
            for (int[] shuffle : leaving) {
                makes(n, shuffle[0], shuffle[1], row(0, n - 1));
            }
        }
        makes(2, 1, 0, "0 1");
        makes(2, 4, 0, "0 1");
    }

    // 0 CUT: "m of 0 to n less 1: the CARDS from the POSITION m on, then the first m".
    private static void promise3CutEdges() {
        for (int n = 3; n <= 16; n++) {
            makes(n, 0, n - 1, (n - 1) + " " + row(0, n - 2));
            makes(n, 0, 1, row(1, n - 1) + " 0");
        }
        makes(2, 0, 1, "1 0");
    }

    // 1 OUT, 2 IN: "m is 0; n is even .. T B T B .. (OUT), or B T B T .. (IN)".
    private static void promise3OutAndInEdges() {
        makes(2, 2, 0, "1 0");
        makes(4, 1, 0, "0 2 1 3");
        makes(4, 2, 0, "2 0 3 1");
        makes(16, 1, 0, "0 8 1 9 2 10 3 11 4 12 5 13 6 14 7 15");
        makes(16, 2, 0, "8 0 9 1 10 2 11 3 12 4 13 5 14 6 15 7");
        ShuffleHall odd = laid(3, 15);
        CHECKS.refused("3: odd n", odd, ARGUMENT, () -> odd.shuffle(0, 1, 0, 1), () -> odd.shuffle(0, 2, 0, 1),
                () -> odd.shuffle(1, 1, 0, 1), () -> odd.shuffle(1, 2, 0, 1));
    }

    // 3 MONGE: the first, the second, the third and the fourth one; odd and even n.
    private static void promise3MongeEdges() {
        makes(2, 3, 0, "1 0");
        makes(3, 3, 0, "1 0 2");
        makes(4, 3, 0, "3 1 0 2");
        makes(15, 3, 0, "13 11 9 7 5 3 1 0 2 4 6 8 10 12 14");
        makes(16, 3, 0, "15 13 11 9 7 5 3 1 0 2 4 6 8 10 12 14");
    }

    // 4 MILK: "a single one that is left comes on top at last".
    private static void promise3MilkEdges() {
        makes(3, 4, 0, "1 0 2");
        makes(4, 4, 0, "1 2 0 3");
        makes(15, 4, 0, "7 6 8 5 9 4 10 3 11 2 12 1 13 0 14");
        makes(16, 4, 0, "7 8 6 9 5 10 4 11 3 12 2 13 1 14 0 15");
    }

    // 5 DEAL: "m of 2 to 4 .. the first pile is on top"; piles that get no card, or one alone.
    private static void promise3DealEdges() {
        makes(2, 5, 2, "0 1");
        makes(2, 5, 3, "0 1");
        makes(2, 5, 4, "0 1");
        makes(3, 5, 2, "2 0 1");
        makes(3, 5, 3, "0 1 2");
        makes(3, 5, 4, "0 1 2");
        makes(4, 5, 3, "3 0 1 2");
        makes(4, 5, 4, "0 1 2 3");
        makes(5, 5, 4, "4 0 1 2 3");
        makes(16, 5, 2, "14 12 10 8 6 4 2 0 15 13 11 9 7 5 3 1");
        makes(16, 5, 3, "15 12 9 6 3 0 13 10 7 4 1 14 11 8 5 2");
        makes(16, 5, 4, "12 8 4 0 13 9 5 1 14 10 6 2 15 11 7 3");
    }

    // 6 BACK: "m of 0 to n: the first m in reversed order, as they lie; the others as they were";
    // 7 OVER: "likewise, and each of these m gets its FACE to the other side".
    private static void promise3BackAndOverEdges() {
        for (int n = 3; n <= 16; n++) {
            makes(n, 6, n, row(n - 1, 0));
            makes(n, 6, n - 1, row(n - 2, 0) + " " + (n - 1));
            makes(n, 6, 2, "1 0 " + row(2, n - 1));
            makes(n, 7, 1, "0^ " + row(1, n - 1));
            makes(n, 7, n, row(n - 1, 0).replace(" ", "^ ") + "^");
            makes(n, 7, n - 1, row(n - 2, 0).replace(" ", "^ ") + "^ " + (n - 1));
        }
        makes(2, 6, 2, "1 0");
        makes(2, 7, 1, "0^ 1");
        makes(2, 7, 2, "1^ 0^");
    }

    // 8 RIFFLE: "p being how many of the n lowest bits of m are 0"; p of 1, of n less 1; the highest bit.
    private static void promise3RiffleEdges() {
        for (int n = 3; n <= 16; n++) {
            int all = (1 << n) - 1;
            makes(n, 8, 1, (n - 1) + " " + row(0, n - 2));
            makes(n, 8, all - 1, row(0, n - 1));
            makes(n, 8, all >> 1, row(1, n - 1) + " 0");
            makes(n, 8, all - 2, "1 0 " + row(2, n - 1));
            makes(n, 8, 1 << (n - 2), row(0, n - 3) + " " + (n - 1) + " " + (n - 2));
        }
        makes(2, 8, 1, "1 0");
        makes(2, 8, 2, "0 1");
        makes(16, 8, 0xAAAA, "0 8 1 9 2 10 3 11 4 12 5 13 6 14 7 15");
        makes(16, 8, 0x5555, "8 0 9 1 10 2 11 3 12 4 13 5 14 6 15 7");
    }

    // 9 PACKETS: "m of 0 to 2^(n less 1) less 1: the DECK is parted behind each POSITION k whose bit is 1".
    private static void promise3PacketsEdges() {
        for (int n = 3; n <= 16; n++) {
            makes(n, 9, (1 << (n - 1)) - 1, row(n - 1, 0));
            makes(n, 9, 1, row(1, n - 1) + " 0");
            makes(n, 9, 1 << (n - 2), (n - 1) + " " + row(0, n - 2));
        }
        makes(2, 9, 1, "1 0");
        makes(16, 9, 0x80, row(8, 15) + " " + row(0, 7));
    }

    // Section 1: "FACES change by OVER alone".
    private static void promise3FacesByOverAlone() {
        int[] numbers = {2, 0, 0, 0, 0, 3, 5, 0, 22, 13};
        for (int kind = 0; kind <= 9; kind++) {
            if (kind != 7) {
                ShuffleHall hall = laid(6);
                hall.turn(0, 0);
                hall.turn(0, 4);
                hall.shuffle(0, kind, numbers[kind], 1);
                for (int card = 0; card < 6; card++) {
                    CHECKS.same("3: face of " + card + " behind " + KINDS[kind], hall.find(0, card, true),
                            card == 0 || card == 4 ? 1 : 0);
                }
            }
        }
        ShuffleHall hall = laid(6);
        hall.turn(0, 0);
        hall.turn(0, 5);
        hall.shuffle(0, 7, 3, 1);
        CHECKS.same("3: OVER turns both ways, the others not", cards(hall, 0), "2^ 1^ 0 3 4 5^");
    }

    // Promise 3: "or often is not 1 to 1000000".
    private static void promise3OftenEdges() {
        ShuffleHall hall = laid(7);
        CHECKS.refused("3: often", hall, ARGUMENT, () -> hall.shuffle(0, 0, 1, 0), () -> hall.shuffle(0, 0, 1, -1),
                () -> hall.shuffle(0, 0, 1, 1000001), () -> hall.shuffle(0, 0, 1, LEAST_INT),
                () -> hall.shuffle(0, 0, 1, MOST_INT), () -> hall.shuffle(0, 0, 1, -1000000));
        CHECKS.refused("3: often, and no shuffle", hall, ARGUMENT, () -> hall.shuffle(0, 10, 1, 0),
                () -> hall.shuffle(0, 1, 0, 1000001), () -> hall.shuffle(0, 0, 7, 0));
        CHECKS.same("3: once", hall.shuffle(0, 0, 1, 1), 1);
        CHECKS.same("3: cards of once", cards(hall, 0), "1 2 3 4 5 6 0");
        // 1000000 is 7 * 142857 + 1.
        CHECKS.same("3: 1000000 times", hall.shuffle(0, 0, 1, 1000000), 2);
        CHECKS.same("3: cards of 1000000 times", cards(hall, 0), "2 3 4 5 6 0 1");
        CHECKS.same("3: 999999 times", hall.shuffle(0, 0, 1, 999999), 2);
        CHECKS.same("3: often counts once", hall.ofDeck(0, 8), 3);
    }

    // Section 2: "To do a SHUFFLE or a SEQUENCE t times: one after another."
    private static void promise3OftenOneAfterAnother() {
        int[] numbers = {4, 0, 0, 0, 0, 4, 7, 7, 0x2B, 0x15};
        for (int kind = 0; kind <= 9; kind++) {
            for (int often : new int[] {1, 2, 3, 4, 7, 8, 100}) {
                ShuffleHall atOnce = laid(10);
                atOnce.turn(0, 3);
                atOnce.shuffle(0, kind, numbers[kind], often);
                ShuffleHall oneByOne = laid(10);
                oneByOne.turn(0, 3);
                for (int i = 0; i < often; i++) {
                    oneByOne.shuffle(0, kind, numbers[kind], 1);
                }
                CHECKS.same("3: " + KINDS[kind] + " " + often + " times", cards(atOnce, 0), cards(oneByOne, 0));
                CHECKS.same("3: counts", atOnce.ofDeck(0, 8) + " " + oneByOne.ofDeck(0, 8), "1 " + often);
            }
        }
        // Each OVER turns its cards: an even number of times leaves the faces as they were.
        ShuffleHall hall = laid(3);
        hall.shuffle(0, 7, 3, 1000000);
        CHECKS.same("3: OVER 1000000 times", cards(hall, 0), "0 1 2");
        hall.shuffle(0, 7, 3, 999999);
        CHECKS.same("3: OVER 999999 times", cards(hall, 0), "2^ 1^ 0^");
    }

    // Promise 3: "IndexOutOfBoundsException if there is no such DECK", which is named first.
    private static void promise3NoSuchDeck() {
        ShuffleHall hall = laid(5, 6);
        for (int deck : new int[] {-1, 2, 3, 4, LEAST_INT, MOST_INT}) {
            CHECKS.refused("3: no deck " + deck, hall, INDEX, () -> hall.shuffle(deck, 0, 0, 1),
                    () -> hall.shuffle(deck, 10, 0, 1), () -> hall.shuffle(deck, 0, -1, 1),
                    () -> hall.shuffle(deck, 0, 0, 0), () -> hall.shuffle(deck, -1, -1, -1));
        }
    }

    // Promise 4: "NONE, if none can be taken back"; nothing is counted then.
    private static void promise4NothingToTakeBack() {
        ShuffleHall hall = laid(4, 4);
        CHECKS.same("4: new deck", hall.undo(0), NONE);
        hall.shuffle(1, 0, 1, 1);
        CHECKS.same("4: another deck's is not taken back", hall.undo(0), NONE);
        hall.shuffle(0, 0, 0, 1);
        CHECKS.same("4: one that changed nothing is taken back", hall.undo(0), 0);
        CHECKS.same("4: but once", hall.undo(0), NONE);
        CHECKS.same("4: taken back ever", hall.many(3), 1);
        CHECKS.same("4: shuffles of the deck", hall.ofDeck(0, 8), 0);
        CHECKS.same("4: shuffles of the other one", hall.ofDeck(1, 8), 1);
        hall.shuffle(0, 0, 3, 1);
        CHECKS.same("4: its top card then", hall.undo(0), 0);
        CHECKS.same("4: none left", hall.undo(0), NONE);
        CHECKS.refused("4: no such deck", hall, INDEX, () -> hall.undo(2), () -> hall.undo(-1), () -> hall.undo(4),
                () -> hall.undo(LEAST_INT), () -> hall.undo(MOST_INT));
        // One that was refused is not there to be taken back.
        CHECKS.refused("4: refused", hall, ARGUMENT, () -> hall.shuffle(0, 0, 4, 1), () -> hall.shuffle(0, 0, 1, 0));
        CHECKS.same("4: a refused one is not taken back", hall.undo(0), NONE);
        // A deck that is laid when others have been shuffled has nothing of theirs.
        hall.shuffle(0, 0, 1, 1);
        CHECKS.same("4: a deck that is laid later", hall.deck(7), 2);
        CHECKS.same("4: it has nothing to take back", hall.undo(2), NONE);
        CHECKS.same("4: it has no shuffles", hall.ofDeck(2, 8), 0);
        CHECKS.same("4: it is new", cards(hall, 2), row(0, 6));
    }

    private static void takesBack(String what, ShuffleHall hall, int from, int to, int by) {
        for (int i = from - 1; i >= to; i--) {
            CHECKS.same(what + ", back to " + i, hall.undo(0), i * by % 13);
        }
    }

    private static ShuffleHall cutOften(int times) {
        ShuffleHall hall = laid(13);
        for (int i = 0; i < times; i++) {
            hall.shuffle(0, 0, 1, 1);
        }
        return hall;
    }

    // Section 1: "a DECK keeps the latest 40": all of 39 and of 40 can be taken back.
    private static void promise4ExactlyForty() {
        for (int times = 39; times <= 40; times++) {
            ShuffleHall hall = cutOften(times);
            takesBack("4: of " + times, hall, times, 0, 1);
            CHECKS.same("4: none behind " + times, hall.undo(0), NONE);
            CHECKS.same("4: as new behind " + times, cards(hall, 0), row(0, 12));
            CHECKS.same("4: taken back, " + times, hall.many(3), times);
            CHECKS.same("4: left, " + times, hall.ofDeck(0, 8), 0);
        }
    }

    // Section 1: "a 41st one lets the oldest one that is kept fall away".
    private static void promise4TheFortyFirst() {
        ShuffleHall hall = cutOften(41);
        takesBack("4: of 41", hall, 41, 1, 1);
        CHECKS.same("4: the 41st", hall.undo(0), NONE);
        CHECKS.same("4: cards behind the oldest one", cards(hall, 0), row(1, 12) + " 0");
        CHECKS.same("4: the oldest one still counts", hall.ofDeck(0, 8), 1);
        CHECKS.same("4: of all decks, too", hall.many(2), 1);
        CHECKS.same("4: 40 were taken back", hall.many(3), 40);
    }

    // Section 1: ".. fall away for good": not there again, when later ones were taken back.
    private static void promise4FallenAwayForGood() {
        ShuffleHall hall = cutOften(41);
        takesBack("4: a few", hall, 41, 36, 1);
        for (int i = 0; i < 4; i++) {
            hall.shuffle(0, 0, 1, 1);
        }
        takesBack("4: of those again", hall, 40, 1, 1);
        CHECKS.same("4: for good", hall.undo(0), NONE);
        hall.shuffle(0, 0, 1, 1);
        CHECKS.same("4: a new one", hall.undo(0), 1);
        CHECKS.same("4: still for good", hall.undo(0), NONE);
        CHECKS.same("4: one that counts", hall.ofDeck(0, 8), 1);
    }

    private static void promise4TwiceRound() {
        ShuffleHall hall = cutOften(81);
        takesBack("4: of 81", hall, 81, 41, 1);
        CHECKS.same("4: 41 fell away", hall.undo(0), NONE);
        CHECKS.same("4: 41 count", hall.ofDeck(0, 8), 41);
        for (int i = 0; i < 40; i++) {
            hall.shuffle(0, 0, 1, 1);
        }
        takesBack("4: of 81 again", hall, 81, 41, 1);
        CHECKS.same("4: 80 were taken back ever", hall.many(3), 80);
        CHECKS.same("4: none more", hall.undo(0), NONE);
    }

    private static void promise4FortyForEachDeck() {
        ShuffleHall hall = laid(13, 5);
        for (int i = 0; i < 40; i++) {
            hall.shuffle(0, 0, 2, 1);
            hall.shuffle(1, 0, 3, 1);
        }
        takesBack("4: the first deck's", hall, 40, 0, 2);
        for (int i = 39; i >= 0; i--) {
            CHECKS.same("4: the second deck's, back to " + i, hall.undo(1), i * 3 % 5);
        }
        CHECKS.same("4: none of the first", hall.undo(0), NONE);
        CHECKS.same("4: none of the second", hall.undo(1), NONE);
    }

    // Section 1: "One that is done often counts once, and so does a SEQUENCE that is done (with no
    // STEPS, too), which is taken back as one."
    private static void promise4OftenAndSequencesAsOne() {
        ShuffleHall hall = laid(13);
        hall.sequence();
        hall.sequence();
        for (int i = 0; i < 8; i++) {
            hall.step(1, 0, 1);
        }
        hall.shuffle(0, 0, 1, 1000000);
        hall.perform(0, 1, 5);
        hall.perform(0, 0, 7);
        CHECKS.same("4: each counts once", hall.ofDeck(0, 8), 3);
        // 1000000 is 13 * 76923 + 1; 8 steps 5 times are 40, which is 3 * 13 + 1.
        CHECKS.same("4: without steps", hall.undo(0), 2);
        CHECKS.same("4: 8 steps 5 times", hall.undo(0), 1);
        CHECKS.same("4: 1000000 times", hall.undo(0), 0);
        CHECKS.same("4: none more", hall.undo(0), NONE);
        hall.shuffle(0, 0, 1, 1);
        for (int i = 0; i < 40; i++) {
            hall.perform(0, 0, 1);
        }
        for (int i = 0; i < 40; i++) {
            CHECKS.same("4: sequences are kept as shuffles are", hall.undo(0), 1);
        }
        CHECKS.same("4: the 41st fell away", hall.undo(0), NONE);
    }

    // Promise 5: "if there is no such DECK, or POSITION": 0 and n less 1 are there, -1 and n not.
    private static void promise5FirstAndLastPosition() {
        for (int n = 2; n <= 16; n++) {
            ShuffleHall hall = laid(n, 16);
            int size = n;
            CHECKS.same("5: first of " + n, hall.turn(0, 0), true);
            CHECKS.same("5: last of " + n, hall.turn(0, n - 1), true);
            CHECKS.same("5: two faces of " + n, hall.ofDeck(0, 7), 2);
            CHECKS.same("5: first of " + n + " again", hall.turn(0, 0), false);
            CHECKS.same("5: last stays up, " + n, hall.find(0, n - 1, true), 1);
            CHECKS.refused("5: no such position of " + n, hall, INDEX, () -> hall.turn(0, size),
                    () -> hall.turn(0, -1), () -> hall.turn(0, LEAST_INT), () -> hall.turn(0, MOST_INT));
            CHECKS.refused("5: no such deck", hall, INDEX, () -> hall.turn(2, 0), () -> hall.turn(-1, 0),
                    () -> hall.turn(4, 0), () -> hall.turn(LEAST_INT, -1), () -> hall.turn(MOST_INT, 0));
        }
        ShuffleHall hall = laid(3);
        hall.shuffle(0, 0, 1, 1);
        hall.turn(0, 0);
        CHECKS.same("5: the card at the position, not that of its number", cards(hall, 0), "1^ 2 0");
    }

    // Promise 5: "that can not be taken back by itself".
    private static void promise5NotTakenBackByItself() {
        ShuffleHall hall = laid(3);
        hall.turn(0, 1);
        CHECKS.same("5: no shuffle to take back", hall.undo(0), NONE);
        CHECKS.same("5: it stays", cards(hall, 0), "0 1^ 2");
        CHECKS.same("5: it is no shuffle", hall.ofDeck(0, 8), 0);
        CHECKS.same("5: of all decks neither", hall.many(2), 0);
        CHECKS.same("5: nothing was taken back", hall.many(3), 0);
    }

    // Promise 5: "with a SHUFFLE that is taken back all FACES are as they were ahead of it".
    private static void promise5FacesAsAheadOfTheShuffle() {
        ShuffleHall hall = laid(4);
        hall.turn(0, 0);
        hall.turn(0, 1);
        hall.shuffle(0, 7, 2, 1);
        CHECKS.same("5: behind OVER", cards(hall, 0), "1 0 2 3");
        hall.turn(0, 3);
        hall.turn(0, 0);
        hall.shuffle(0, 0, 0, 1);
        hall.turn(0, 2);
        CHECKS.same("5: ahead of the first undo", cards(hall, 0), "1^ 0 2^ 3^");
        hall.undo(0);
        CHECKS.same("5: turned behind a shuffle that changed nothing", cards(hall, 0), "1^ 0 2 3^");
        hall.undo(0);
        CHECKS.same("5: turned ahead of OVER", cards(hall, 0), "0^ 1^ 2 3");
        hall.turn(0, 0);
        hall.undo(0);
        CHECKS.same("5: NONE leaves the faces", cards(hall, 0), "0 1^ 2 3");
        CHECKS.same("5: faces of the deck", hall.ofDeck(0, 7), 1);
        CHECKS.same("5: faces of all decks", hall.many(5), 1);
    }
}
