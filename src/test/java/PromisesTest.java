/** Each promise of the document by answers that were reckoned by hand. */
public final class PromisesTest extends TestBase {
    public static void main(String[] args) {
        promise1NewObject();
        promise2Deck();
        promise3ShuffleKinds();
        promise3ShuffleFaces();
        promise3ShuffleRanges();
        promise3ShuffleOften();
        promise4Undo();
        promise4UndoKeepsForty();
        promise5Turn();
        promise6Sequence();
        promise7Step();
        promise8Perform();
        promise9Card();
        promise10Find();
        promise11OfDeckPlacement();
        promise11OfDeckOthers();
        promise12Keeps();
        promise13Chance();
        promise14Far();
        promise15Alike();
        promise16OfSequence();
        promise17Period();
        promise18Many();
        promise19ToTop();
        promise20Goes();
        promise21Best();
        promise22Riffle();
        promise23Digest();
        CHECKS.end("PromisesTest");
    }

    private static void makes(int cards, int kind, int number, String due) {
        ShuffleHall hall = laid(cards);
        int top = hall.shuffle(0, kind, number, 1);
        String what = "kind " + kind + " with " + number + " of " + cards + " cards";
        CHECKS.same(what, cards(hall, 0), due);
        CHECKS.same(what + ", top", top, hall.card(0, 0));
    }

    private static void promise1NewObject() {
        ShuffleHall hall = new ShuffleHall();
        for (int what = 0; what <= 5; what++) {
            CHECKS.same("1: many " + what, hall.many(what), 0);
        }
        CHECKS.refused("1", hall, INDEX, () -> hall.undo(0), () -> hall.card(0, 0), () -> hall.ofSequence(0, 0));
        CHECKS.same("1: first deck", hall.deck(2), 0);
        CHECKS.same("1: first sequence", hall.sequence(), 0);
        CHECKS.same("1: another object", new ShuffleHall().many(0), 0);
    }

    private static void promise2Deck() {
        ShuffleHall hall = new ShuffleHall();
        CHECKS.refused("2", hall, ARGUMENT, () -> hall.deck(1), () -> hall.deck(17), () -> hall.deck(0),
                () -> hall.deck(-2), () -> hall.deck(Integer.MIN_VALUE), () -> hall.deck(Integer.MAX_VALUE));
        CHECKS.same("2: first", hall.deck(2), 0);
        CHECKS.same("2: second", hall.deck(16), 1);
        CHECKS.same("2: third", hall.deck(5), 2);
        CHECKS.same("2: fourth", hall.deck(5), 3);
        CHECKS.same("2: cards of 2", cards(hall, 0), "0 1");
        CHECKS.same("2: cards of 16", cards(hall, 1), "0 1 2 3 4 5 6 7 8 9 10 11 12 13 14 15");
        CHECKS.same("2: cards of 5", cards(hall, 2), "0 1 2 3 4");
        CHECKS.refused("2: a fifth", hall, STATE, () -> hall.deck(2), () -> hall.deck(16));
        CHECKS.refused("2: a fifth, named first", hall, ARGUMENT, () -> hall.deck(1), () -> hall.deck(17));
        hall.shuffle(2, 6, 5, 1);
        CHECKS.same("2: its own cards", cards(hall, 3), "0 1 2 3 4");
    }

    private static void promise3ShuffleKinds() {
        makes(5, 0, 0, "0 1 2 3 4");
        makes(5, 0, 2, "2 3 4 0 1");
        makes(5, 0, 4, "4 0 1 2 3");
        makes(6, 1, 0, "0 3 1 4 2 5");
        makes(2, 1, 0, "0 1");
        makes(6, 2, 0, "3 0 4 1 5 2");
        makes(2, 2, 0, "1 0");
        makes(5, 3, 0, "3 1 0 2 4");
        makes(6, 3, 0, "5 3 1 0 2 4");
        makes(2, 3, 0, "1 0");
        makes(5, 4, 0, "2 1 3 0 4");
        makes(6, 4, 0, "2 3 1 4 0 5");
        makes(2, 4, 0, "0 1");
        makes(7, 5, 2, "6 4 2 0 5 3 1");
        makes(7, 5, 3, "6 3 0 4 1 5 2");
        makes(7, 5, 4, "4 0 5 1 6 2 3");
        makes(2, 5, 4, "0 1");
        makes(3, 5, 2, "2 0 1");
        makes(5, 6, 3, "2 1 0 3 4");
        makes(5, 6, 0, "0 1 2 3 4");
        makes(5, 6, 5, "4 3 2 1 0");
        makes(5, 7, 3, "2^ 1^ 0^ 3 4");
        makes(5, 7, 0, "0 1 2 3 4");
        makes(5, 7, 5, "4^ 3^ 2^ 1^ 0^");
        makes(5, 8, 10, "0 3 1 4 2");
        makes(5, 8, 1, "4 0 1 2 3");
        makes(5, 8, 0, "0 1 2 3 4");
        makes(5, 8, 31, "0 1 2 3 4");
        makes(16, 8, 32768, "0 1 2 3 4 5 6 7 8 9 10 11 12 13 14 15");
        makes(16, 8, 255, "8 9 10 11 12 13 14 15 0 1 2 3 4 5 6 7");
        makes(5, 9, 5, "3 4 1 2 0");
        makes(5, 9, 0, "0 1 2 3 4");
        makes(5, 9, 15, "4 3 2 1 0");
        makes(5, 9, 8, "4 0 1 2 3");
        makes(2, 9, 1, "1 0");
        // From a deck that is no new one, positions count and not cards.
        ShuffleHall hall = laid(6);
        hall.shuffle(0, 0, 2, 1);
        CHECKS.same("3: top behind two", hall.shuffle(0, 2, 0, 1), 5);
        CHECKS.same("3: cards behind two", cards(hall, 0), "5 2 0 3 1 4");
    }

    private static void promise3ShuffleFaces() {
        ShuffleHall hall = laid(5);
        hall.turn(0, 0);
        hall.turn(0, 4);
        hall.shuffle(0, 6, 3, 1);
        CHECKS.same("3: BACK, as they lie", cards(hall, 0), "2 1 0^ 3 4^");
        hall.shuffle(0, 7, 4, 1);
        CHECKS.same("3: OVER turns both ways", cards(hall, 0), "3^ 0 1^ 2^ 4^");
        hall.shuffle(0, 3, 0, 1);
        CHECKS.same("3: faces go with their cards", cards(hall, 0), "2^ 0 3^ 1^ 4^");
    }

    private static void promise3ShuffleRanges() {
        ShuffleHall hall = laid(5, 6, 16);
        int[][] wrong = {
            {0, 0, -1}, {0, 0, 5}, {0, 1, 0}, {0, 2, 0}, {1, 1, 1}, {1, 2, 1}, {1, 1, -1}, {0, 3, 1}, {0, 4, 1},
            {0, 3, -1}, {0, 4, -1}, {0, 5, 1}, {0, 5, 5}, {0, 5, 0}, {0, 5, -2}, {0, 6, -1}, {0, 6, 6}, {0, 7, -1},
            {0, 7, 6}, {0, 8, -1}, {0, 8, 32}, {2, 8, 65536}, {0, 9, -1}, {0, 9, 16}, {2, 9, 32768}, {0, 10, 0},
            {0, -1, 0}, {0, Integer.MAX_VALUE, 0}, {0, Integer.MIN_VALUE, 0}, {2, 8, Integer.MAX_VALUE},
        };
        for (int[] row : wrong) {
            CHECKS.refused("3: range of " + row[1] + " with " + row[2], hall, ARGUMENT,
                    () -> hall.shuffle(row[0], row[1], row[2], 1));
        }
        CHECKS.refused("3: often", hall, ARGUMENT, () -> hall.shuffle(0, 0, 1, 0),
                () -> hall.shuffle(0, 0, 1, -1), () -> hall.shuffle(0, 0, 1, 1000001),
                () -> hall.shuffle(0, 0, 1, Integer.MAX_VALUE), () -> hall.shuffle(0, 0, 1, Integer.MIN_VALUE));
        CHECKS.refused("3: no deck", hall, INDEX, () -> hall.shuffle(3, 0, 0, 1),
                () -> hall.shuffle(-1, 0, 0, 1), () -> hall.shuffle(4, 10, -1, 0),
                () -> hall.shuffle(Integer.MAX_VALUE, 0, 0, 1));
        int[][] right = {
            {0, 0, 4}, {1, 1, 0}, {1, 2, 0}, {0, 3, 0}, {0, 4, 0}, {0, 5, 2}, {0, 5, 4}, {0, 6, 5}, {0, 7, 5},
            {0, 8, 31}, {2, 8, 65535}, {0, 9, 15}, {2, 9, 32767},
        };
        for (int[] row : right) {
            hall.shuffle(row[0], row[1], row[2], 1);
        }
        CHECKS.same("3: all at the edges were done", hall.many(2), right.length);
    }

    private static void promise3ShuffleOften() {
        ShuffleHall hall = laid(5);
        CHECKS.same("3: 7 times", hall.shuffle(0, 0, 1, 7), 2);
        CHECKS.same("3: cards of 7 times", cards(hall, 0), "2 3 4 0 1");
        CHECKS.same("3: 1000000 times", hall.shuffle(0, 0, 1, 1000000), 2);
        CHECKS.same("3: 999999 times", hall.shuffle(0, 0, 1, 999999), 1);
        CHECKS.same("3: OVER 3 times", hall.shuffle(0, 7, 5, 3), 0);
        CHECKS.same("3: cards of OVER 3 times", cards(hall, 0), "0^ 4^ 3^ 2^ 1^");
        CHECKS.same("3: OVER twice", hall.shuffle(0, 7, 4, 2), 0);
        CHECKS.same("3: cards of OVER twice", cards(hall, 0), "0^ 4^ 3^ 2^ 1^");
        CHECKS.same("3: often counts once", hall.ofDeck(0, 8), 5);
        for (int i = 0; i < 5; i++) {
            hall.undo(0);
        }
        CHECKS.same("3: often is taken back as one", cards(hall, 0), "0 1 2 3 4");
    }

    private static void promise4Undo() {
        ShuffleHall hall = laid(4, 4);
        CHECKS.same("4: nothing yet", hall.undo(0), -1);
        hall.shuffle(0, 0, 1, 1);
        hall.shuffle(0, 6, 4, 1);
        CHECKS.same("4: another deck", hall.undo(1), -1);
        CHECKS.same("4: cards ahead", cards(hall, 0), "0 3 2 1");
        CHECKS.same("4: the latest", hall.undo(0), 1);
        CHECKS.same("4: cards behind", cards(hall, 0), "1 2 3 0");
        CHECKS.same("4: the first", hall.undo(0), 0);
        CHECKS.same("4: as new", cards(hall, 0), "0 1 2 3");
        CHECKS.same("4: no more", hall.undo(0), -1);
        CHECKS.same("4: counted", hall.many(3), 2);
        CHECKS.same("4: left", hall.many(2), 0);
        CHECKS.refused("4", hall, INDEX, () -> hall.undo(2), () -> hall.undo(-1), () -> hall.undo(4));
        hall.shuffle(0, 0, 0, 1);
        CHECKS.same("4: one that changes nothing counts", hall.undo(0), 0);
        CHECKS.same("4: but once", hall.undo(0), -1);
    }

    private static void promise4UndoKeepsForty() {
        ShuffleHall hall = laid(16);
        for (int i = 0; i < 42; i++) {
            hall.shuffle(0, 0, 1, 1);
        }
        for (int i = 41; i >= 2; i--) {
            CHECKS.same("4: back to " + i, hall.undo(0), i % 16);
        }
        CHECKS.same("4: two fell away", hall.undo(0), -1);
        CHECKS.same("4: they still count", hall.ofDeck(0, 8), 2);
        CHECKS.same("4: cards stay", hall.card(0, 0), 2);
        for (int i = 0; i < 40; i++) {
            hall.shuffle(0, 0, 3, 1);
        }
        for (int i = 39; i >= 0; i--) {
            CHECKS.same("4: again to " + i, hall.undo(0), (2 + 3 * i) % 16);
        }
        CHECKS.same("4: exactly 40", hall.undo(0), -1);
    }

    private static void promise5Turn() {
        ShuffleHall hall = laid(3, 3);
        CHECKS.same("5: up", hall.turn(0, 2), true);
        CHECKS.same("5: cards", cards(hall, 0), "0 1 2^");
        CHECKS.same("5: other deck", cards(hall, 1), "0 1 2");
        CHECKS.same("5: no shuffle", hall.undo(0), -1);
        CHECKS.same("5: down", hall.turn(0, 2), false);
        hall.turn(0, 0);
        hall.shuffle(0, 0, 1, 1);
        CHECKS.same("5: by position", hall.turn(0, 0), true);
        CHECKS.same("5: the same card", hall.turn(0, 2), false);
        CHECKS.same("5: ahead of undo", cards(hall, 0), "1^ 2 0");
        hall.undo(0);
        CHECKS.same("5: faces as ahead of the shuffle", cards(hall, 0), "0^ 1 2");
        CHECKS.refused("5", hall, INDEX, () -> hall.turn(2, 0), () -> hall.turn(-1, 0), () -> hall.turn(0, 3),
                () -> hall.turn(0, -1), () -> hall.turn(0, Integer.MAX_VALUE), () -> hall.turn(0, Integer.MIN_VALUE));
    }

    private static void promise6Sequence() {
        ShuffleHall hall = laid(3);
        for (int i = 0; i < 4; i++) {
            CHECKS.same("6: number", hall.sequence(), i);
            CHECKS.same("6: without steps", hall.ofSequence(i, 0), 0);
        }
        CHECKS.refused("6", hall, STATE, () -> hall.sequence());
        CHECKS.same("6: many", hall.many(1), 4);
    }

    private static void promise7Step() {
        ShuffleHall hall = laid(3);
        CHECKS.refused("7: none there", hall, INDEX, () -> hall.step(0, 0, 0), () -> hall.step(0, -1, -1));
        hall.sequence();
        hall.sequence();
        CHECKS.refused("7", hall, ARGUMENT, () -> hall.step(0, -1, 0), () -> hall.step(0, 10, 0),
                () -> hall.step(0, 0, -1), () -> hall.step(0, 9, Integer.MIN_VALUE));
        CHECKS.refused("7: no such one", hall, INDEX, () -> hall.step(2, 0, 0), () -> hall.step(-1, 0, 0),
                () -> hall.step(4, 10, -1));
        CHECKS.same("7: in no range", hall.step(1, 1, Integer.MAX_VALUE), 1);
        for (int i = 1; i <= 8; i++) {
            CHECKS.same("7: steps", hall.step(0, i + 1, i), i);
        }
        CHECKS.refused("7: a ninth", hall, STATE, () -> hall.step(0, 0, 0));
        CHECKS.refused("7: a ninth, named first", hall, ARGUMENT, () -> hall.step(0, 10, 0), () -> hall.step(0, 0, -1));
        CHECKS.same("7: the last step", hall.ofSequence(0, 8), 900008);
        CHECKS.same("7: the other one", hall.step(1, 0, 0), 2);
    }

    private static void promise8Perform() {
        ShuffleHall hall = laid(6, 5);
        hall.sequence();
        hall.sequence();
        CHECKS.same("8: without steps", hall.perform(0, 0, 1000000), 0);
        CHECKS.same("8: counts once", hall.ofDeck(0, 8), 1);
        hall.step(0, 0, 2);
        hall.step(0, 7, 3);
        CHECKS.same("8: once", hall.perform(0, 0, 1), 4);
        CHECKS.same("8: cards of once", cards(hall, 0), "4^ 3^ 2^ 5 0 1");
        CHECKS.same("8: twice more", hall.perform(0, 0, 2), 4);
        CHECKS.same("8: cards of twice more", cards(hall, 0), "4 1^ 2^ 3^ 0^ 5^");
        CHECKS.same("8: taken back as one", hall.undo(0), 4);
        CHECKS.same("8: another one", hall.undo(0), 0);
        CHECKS.same("8: without steps, taken back", hall.undo(0), 0);
        CHECKS.same("8: nothing left", hall.undo(0), -1);
        hall.step(1, 0, 1);
        hall.step(1, 1, 0);
        CHECKS.refused("8: odd", hall, STATE, () -> hall.perform(1, 1, 1));
        CHECKS.same("8: even", hall.perform(0, 1, 1), 1);
        CHECKS.refused("8: often", hall, ARGUMENT, () -> hall.perform(1, 1, 0), () -> hall.perform(0, 0, 1000001),
                () -> hall.perform(0, 0, -5), () -> hall.perform(0, 0, Integer.MIN_VALUE));
        CHECKS.refused("8: no such", hall, INDEX, () -> hall.perform(2, 0, 1), () -> hall.perform(0, 2, 1),
                () -> hall.perform(-1, 0, 0), () -> hall.perform(0, -1, 0), () -> hall.perform(1, 4, 0));
    }

    private static void promise9Card() {
        ShuffleHall hall = lying(2, 0, 3, 1);
        CHECKS.same("9: top", hall.card(0, 0), 2);
        CHECKS.same("9: lowest", hall.card(0, 3), 1);
        CHECKS.refused("9", hall, INDEX, () -> hall.card(0, 4), () -> hall.card(0, -1), () -> hall.card(1, 0),
                () -> hall.card(-1, 0), () -> hall.card(0, Integer.MAX_VALUE));
    }

    private static void promise10Find() {
        ShuffleHall hall = lying(2, 0, 3, 1);
        hall.turn(0, 2);
        CHECKS.same("10: where", hall.find(0, 3, false), 2);
        CHECKS.same("10: where the last is", hall.find(0, 1, false), 3);
        CHECKS.same("10: up", hall.find(0, 3, true), 1);
        CHECKS.same("10: down", hall.find(0, 2, true), 0);
        CHECKS.refused("10", hall, INDEX, () -> hall.find(0, 4, false), () -> hall.find(0, -1, true),
                () -> hall.find(1, 0, false), () -> hall.find(-1, 0, true), () -> hall.find(0, 4, true));
    }

    private static void promise11OfDeckPlacement() {
        // Cycles: 0 2 4, 1 3, 5.
        ShuffleHall hall = lying(2, 3, 4, 1, 0, 5);
        int[] due = {6, 3, 1, 6, 7, 3, 2, 0, 12, 3, 4};
        for (int what = 0; what <= 10; what++) {
            CHECKS.same("11: " + what, hall.ofDeck(0, what), due[what]);
        }
        // Behind so many times it is new again, and not sooner: 3 of 4 and 5 make 60, with 12 cards.
        ShuffleHall other = lying(1, 2, 0, 4, 5, 6, 3, 8, 9, 10, 11, 7);
        CHECKS.same("11: least common multiple", other.ofDeck(0, 3), 60);
        CHECKS.same("11: longest cycle", other.ofDeck(0, 9), 5);
        CHECKS.same("11: cycles", other.ofDeck(0, 1), 3);
        CHECKS.same("11: fixed", other.ofDeck(0, 2), 0);
        CHECKS.same("11: longest rise", other.ofDeck(0, 10), 9);
        // 4 and 6 make 12, not 24.
        CHECKS.same("11: of 4 and 6", lying(1, 2, 3, 0, 5, 6, 7, 8, 9, 4).ofDeck(0, 3), 12);
    }

    private static void promise11OfDeckOthers() {
        ShuffleHall fresh = laid(16);
        int[] due = {16, 16, 16, 1, 0, 1, 0, 0, 0, 1, 16};
        for (int what = 0; what <= 10; what++) {
            CHECKS.same("11: new deck, " + what, fresh.ofDeck(0, what), due[what]);
        }
        fresh.shuffle(0, 7, 16, 1);
        int[] over = {16, 8, 0, 2, 120, 16, 4, 16, 1, 2, 1};
        for (int what = 0; what <= 10; what++) {
            CHECKS.same("11: all over, " + what, fresh.ofDeck(0, what), over[what]);
        }
        fresh.undo(0);
        CHECKS.same("11: those taken back not", fresh.ofDeck(0, 8), 0);
        CHECKS.same("11: 2 runs need 1", lying(1, 0).ofDeck(0, 6), 1);
        CHECKS.same("11: 3 runs need 2", lying(2, 1, 0).ofDeck(0, 6), 2);
        CHECKS.same("11: 4 runs need 2", lying(3, 2, 1, 0).ofDeck(0, 6), 2);
        CHECKS.same("11: 5 runs need 3", lying(4, 3, 2, 1, 0).ofDeck(0, 6), 3);
        CHECKS.refused("11", fresh, ARGUMENT, () -> fresh.ofDeck(0, 11), () -> fresh.ofDeck(0, -1),
                () -> fresh.ofDeck(0, Integer.MAX_VALUE));
        CHECKS.refused("11: no deck", fresh, INDEX, () -> fresh.ofDeck(1, 0), () -> fresh.ofDeck(-1, 11));
    }

    private static void keeps(String due, int... order) {
        ShuffleHall hall = lying(order);
        StringBuilder got = new StringBuilder();
        for (int what = 0; what <= 5; what++) {
            got.append(hall.keeps(0, what) ? '1' : '0');
        }
        CHECKS.same("12: " + java.util.Arrays.toString(order), got.toString(), due);
    }

    private static void promise12Keeps() {
        // PAIRS, FOURS, WHOLE, EVEN, as new, together n less 1.
        keeps("111111", 0, 1, 2, 3, 4);
        keeps("111111", 0, 1);
        keeps("111001", 1, 0);
        keeps("111001", 2, 1, 0);
        keeps("010100", 0, 2, 3, 1);
        keeps("100000", 0, 1, 4, 3, 2, 5);
        keeps("000000", 1, 2, 3, 5, 0, 4);
        keeps("000001", 0, 2, 4, 1, 3, 5);
        keeps("110100", 3, 0, 1, 2, 4, 5, 7, 6);
        keeps("111000", 4, 3, 5, 2, 1, 0, 6);
        keeps("110101", 5, 4, 2, 3, 1, 0);
        keeps("110000", 1, 0, 3, 2, 6, 5, 4);
        keeps("010000", 0, 1, 2, 3, 4, 6, 5);
        keeps("111100", 1, 2, 0, 3);
        ShuffleHall hall = laid(4);
        hall.turn(0, 0);
        CHECKS.same("12: faces aside", hall.keeps(0, 4), true);
        CHECKS.refused("12", hall, ARGUMENT, () -> hall.keeps(0, 6), () -> hall.keeps(0, -1));
        CHECKS.refused("12: no deck", hall, INDEX, () -> hall.keeps(1, 0), () -> hall.keeps(-1, 6));
    }

    private static void promise13Chance() {
        ShuffleHall fresh = laid(2, 3);
        CHECKS.same("13: new deck, none", fresh.chance(0, 0), 1.0);
        CHECKS.same("13: new deck, one", fresh.chance(0, 1), 0.75);
        CHECKS.same("13: new deck of 3, one", fresh.chance(1, 1), 0.5);
        ShuffleHall hall = lying(2, 1, 0);
        CHECKS.same("13: none", hall.chance(0, 0), 0.0);
        CHECKS.same("13: too few", hall.chance(0, 1), 0.0);
        CHECKS.same("13: enough", hall.chance(0, 2), 0.0625);
        CHECKS.same("13: two runs", lying(1, 0).chance(0, 1), 0.25);
        double due = 1.0;
        for (int i = 1; i <= 3; i++) {
            due = due * (4096 - 3 + i) / i / 4096;
        }
        CHECKS.same("13: the most", hall.chance(0, 12), due);
        CHECKS.refused("13", hall, ARGUMENT, () -> hall.chance(0, 13), () -> hall.chance(0, -1),
                () -> hall.chance(0, 32), () -> hall.chance(0, Integer.MIN_VALUE));
        CHECKS.refused("13: no deck", hall, INDEX, () -> hall.chance(1, 0), () -> hall.chance(-1, 13));
    }

    private static void promise14Far() {
        CHECKS.same("14: new", laid(7).far(0), 0.0);
        CHECKS.same("14: 4 of 3", lying(2, 1, 0).far(0), 4.0 / 3.0);
        CHECKS.same("14: 4 of 4", lying(1, 0, 3, 2).far(0), 1.0);
        CHECKS.same("14: 6 of 4", lying(3, 0, 1, 2).far(0), 1.5);
        ShuffleHall hall = laid(3);
        CHECKS.refused("14", hall, INDEX, () -> hall.far(1), () -> hall.far(-1), () -> hall.far(4));
    }

    private static void promise15Alike() {
        ShuffleHall hall = laid(4, 6, 6);
        CHECKS.same("15: new", hall.alike(0, 1), 4);
        CHECKS.same("15: the other way", hall.alike(1, 0), 4);
        CHECKS.same("15: itself", hall.alike(2, 2), 6);
        hall.turn(1, 2);
        CHECKS.same("15: one face", hall.alike(0, 1), 3);
        CHECKS.same("15: one face, longer", hall.alike(1, 2), 5);
        hall.turn(2, 2);
        CHECKS.same("15: both faces up", hall.alike(1, 2), 6);
        hall.shuffle(2, 6, 4, 1);
        CHECKS.same("15: others", hall.alike(1, 2), 2);
        CHECKS.refused("15", hall, INDEX, () -> hall.alike(0, 3), () -> hall.alike(3, 0), () -> hall.alike(-1, 0),
                () -> hall.alike(0, -1));
    }

    private static void promise16OfSequence() {
        ShuffleHall hall = new ShuffleHall();
        hall.sequence();
        CHECKS.refused("16: without steps", hall, ARGUMENT, () -> hall.ofSequence(0, 1), () -> hall.ofSequence(0, -1));
        hall.step(0, 0, 7);
        hall.step(0, 9, 99999);
        hall.step(0, 8, 100000);
        hall.step(0, 2, Integer.MAX_VALUE);
        int[] due = {4, 7, 999999, 800000, 283647};
        for (int what = 0; what <= 4; what++) {
            CHECKS.same("16: " + what, hall.ofSequence(0, what), due[what]);
        }
        CHECKS.refused("16", hall, ARGUMENT, () -> hall.ofSequence(0, 5), () -> hall.ofSequence(0, -1),
                () -> hall.ofSequence(0, 9), () -> hall.ofSequence(0, Integer.MIN_VALUE));
        CHECKS.refused("16: none", hall, INDEX, () -> hall.ofSequence(1, 0), () -> hall.ofSequence(-1, 9));
    }

    private static void promise17Period() {
        ShuffleHall hall = new ShuffleHall();
        for (int i = 0; i < 4; i++) {
            hall.sequence();
        }
        CHECKS.same("17: without steps", hall.period(0, 9), 1);
        hall.step(0, 0, 1);
        CHECKS.same("17: a cut", hall.period(0, 9), 9);
        CHECKS.same("17: a cut of the most", hall.period(0, 16), 16);
        CHECKS.same("17: a cut of the fewest", hall.period(0, 2), 2);
        hall.step(1, 1, 0);
        CHECKS.same("17: OUT with 8", hall.period(1, 8), 3);
        CHECKS.same("17: OUT with 7", hall.period(1, 7), -1);
        hall.step(2, 7, 1);
        CHECKS.same("17: a face", hall.period(2, 5), 2);
        hall.step(2, 0, 1);
        CHECKS.same("17: a face each time round", hall.period(2, 3), 6);
        CHECKS.same("17: a face each time round, even", hall.period(2, 4), 8);
        hall.step(3, 7, 2);
        CHECKS.same("17: two faces in one cycle", hall.period(3, 4), 2);
        hall.step(3, 0, 16);
        CHECKS.same("17: no shuffle", hall.period(3, 16), -1);
        CHECKS.refused("17", hall, ARGUMENT, () -> hall.period(0, 1), () -> hall.period(0, 17),
                () -> hall.period(3, -1), () -> hall.period(0, Integer.MAX_VALUE));
        CHECKS.refused("17: none", laid(2), INDEX, () -> laid(2).period(0, 2));
        CHECKS.refused("17: none, named first", hall, INDEX, () -> hall.period(4, 1), () -> hall.period(-1, 8));
    }

    private static void promise18Many() {
        ShuffleHall hall = laid(5, 16);
        hall.sequence();
        hall.sequence();
        hall.sequence();
        hall.shuffle(0, 7, 5, 1);
        hall.shuffle(1, 7, 4, 3);
        hall.perform(1, 0, 9);
        hall.shuffle(1, 0, 1, 1);
        hall.undo(1);
        hall.undo(1);
        int[] due = {2, 3, 2, 2, 21, 9};
        for (int what = 0; what <= 5; what++) {
            CHECKS.same("18: " + what, hall.many(what), due[what]);
        }
        hall.turn(0, 0);
        CHECKS.same("18: one face less", hall.many(5), 8);
        CHECKS.refused("18", hall, ARGUMENT, () -> hall.many(6), () -> hall.many(-1),
                () -> hall.many(Integer.MIN_VALUE));
    }

    private static void promise19ToTop() {
        ShuffleHall hall = laid(8, 5, 2, 6);
        int[] due = {0, 3, 2, 3, 1, 3, 2, 3};
        for (int position = 0; position < 8; position++) {
            CHECKS.same("19: from " + position, hall.toTop(0, position), due[position]);
        }
        CHECKS.same("19: odd", hall.toTop(1, 4), -1);
        CHECKS.same("19: odd, the top one too", hall.toTop(1, 0), -1);
        CHECKS.same("19: two cards", hall.toTop(2, 1), 1);
        // IN brings 3 to the top; IN 1 and OUT 4 to 3; OUT 2 and IN 5 to 4.
        int[] six = {0, 2, 3, 1, 2, 3};
        for (int position = 0; position < 6; position++) {
            CHECKS.same("19: of six from " + position, hall.toTop(3, position), six[position]);
        }
        CHECKS.refused("19", hall, INDEX, () -> hall.toTop(4, 0), () -> hall.toTop(-1, 0), () -> hall.toTop(0, 8),
                () -> hall.toTop(0, -1), () -> hall.toTop(1, 5));
    }

    private static void promise20Goes() {
        ShuffleHall hall = lying(2, 0, 4, 1, 3);
        CHECKS.same("20: CUT", hall.goes(0, 0, 0, 2), 3);
        CHECKS.same("20: MONGE", hall.goes(0, 4, 3, 0), 4);
        CHECKS.same("20: MONGE, second", hall.goes(0, 1, 3, 0), 1);
        CHECKS.same("20: BACK", hall.goes(0, 1, 6, 4), 2);
        CHECKS.same("20: DEAL", hall.goes(0, 2, 5, 3), 4);
        long before = hall.digest();
        CHECKS.same("20: OVER", hall.goes(0, 0, 7, 5), 4);
        CHECKS.same("20: nothing is changed", hall.digest(), before);
        CHECKS.refused("20", hall, ARGUMENT, () -> hall.goes(0, 0, 1, 0), () -> hall.goes(0, 0, 10, 0),
                () -> hall.goes(0, 0, -1, 0), () -> hall.goes(0, 4, 0, 5), () -> hall.goes(0, 0, 8, 32));
        CHECKS.refused("20: no such", hall, INDEX, () -> hall.goes(1, 0, 0, 0), () -> hall.goes(0, 5, 0, 0),
                () -> hall.goes(0, -1, 10, 0), () -> hall.goes(-1, 0, 10, -1));
    }

    private static void promise21Best() {
        CHECKS.same("21: OUT of two", laid(2).best(0), 1);
        CHECKS.same("21: IN of two turned", lying(1, 0).best(0), 2);
        CHECKS.same("21: new of four", laid(4).best(0), 1);
        CHECKS.same("21: MONGE undone", lying(2, 1, 3, 0).best(0), 3);
        CHECKS.same("21: odd, of several the smallest", laid(3).best(0), 3);
        CHECKS.same("21: MILK undone", lying(3, 1, 0, 2, 4).best(0), 4);
        CHECKS.same("21: DEAL undone", lying(3, 6, 2, 5, 1, 4, 0).best(0), 5);
        ShuffleHall hall = lying(4, 2, 0, 1, 3);
        long before = hall.digest();
        hall.best(0);
        CHECKS.same("21: nothing is changed", hall.digest(), before);
        CHECKS.refused("21", hall, INDEX, () -> hall.best(1), () -> hall.best(-1), () -> hall.best(4));
    }

    private static void promise22Riffle() {
        CHECKS.same("22: new", laid(6).riffle(0), 0);
        CHECKS.same("22: new of 16", laid(16).riffle(0), 0);
        CHECKS.same("22: by turns", lying(0, 3, 1, 4, 2).riffle(0), 10);
        CHECKS.same("22: cut", lying(4, 0, 1, 2, 3).riffle(0), 1);
        CHECKS.same("22: cut below", lying(1, 2, 3, 0).riffle(0), 7);
        CHECKS.same("22: turned", lying(1, 0).riffle(0), 1);
        CHECKS.same("22: three runs", lying(2, 1, 0).riffle(0), -1);
        for (int m = 0; m < 64; m++) {
            ShuffleHall hall = laid(6);
            hall.shuffle(0, 8, m, 1);
            CHECKS.same("22: of " + m, hall.riffle(0), hall.keeps(0, 4) ? 0 : m);
        }
        ShuffleHall hall = laid(3);
        hall.turn(0, 1);
        CHECKS.same("22: faces aside", hall.riffle(0), 0);
        CHECKS.refused("22", hall, INDEX, () -> hall.riffle(1), () -> hall.riffle(-1), () -> hall.riffle(4));
    }

    private static long digestOf(int... values) {
        long d = 58304;
        for (int value : values) {
            d = d * 31 + value;
        }
        return d;
    }

    private static void promise23Digest() {
        ShuffleHall hall = new ShuffleHall();
        CHECKS.same("23: new", hall.digest(), digestOf(0, 0, 0, 0, 0, 0));
        hall.deck(2);
        hall.shuffle(0, 7, 2, 1);
        hall.deck(3);
        hall.sequence();
        hall.step(0, 0, 3);
        CHECKS.same("23: two decks", hall.digest(), digestOf(
                2, 1, 1, 0, 5, 2,
                2, 1, 0, 2, 1, 2, 1, 2, 1, 2, 1, /**/ 1, 1, 1, 0, 0, 1, /**/ 1, 1, 0, 0, 1, 1, /**/ 2, 1, 2,
                3, 3, 3, 1, 0, 1, 0, 0, 0, 1, 3, /**/ 1, 1, 1, 1, 1, 1, /**/ 0, 0, -1, 1, 0, -1, 2, 0, -1,
                3, 0, 0,
                1, 8));
        CHECKS.same("23: changes nothing", hall.digest(), hall.digest());
        hall.step(0, 0, 8);
        long before = hall.digest();
        hall.undo(0);
        CHECKS.same("23: another one", hall.digest() == before, false);
    }
}
