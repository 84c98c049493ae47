/**
 * The boundary cases of section 2 (sequences) and of the promises 6, 7, 8, 16 and 17, sentence by
 * sentence.
 */
public final class SequenceEdgesTest extends TestBase {
    public static void main(String[] args) {
        promise6AtMostFourSequences();
        promise6WithoutSteps();
        promise7FirstAndLastKind();
        promise7NumberInNoRange();
        promise7AtMostEightSteps();
        promise7NoSuchSequence();
        promise8WithoutSteps();
        promise8StepsInOrder();
        promise8AllEightSteps();
        promise8OneAfterAnother();
        promise8OftenEdges();
        promise8NothingIsDoneForOneStep();
        promise8RangesOfTheDeckThatItIsDoneWith();
        promise8NoSuchDeckOrSequence();
        promise8WhatIsNamedFirst();
        promise8TakenBackAsOne();
        promise16FirstAndLastWhat();
        promise16NumberModulo100000();
        promise16NoSuchSequence();
        promise17FewestAndMostCards();
        promise17AtLeastOnce();
        promise17FacesAsTheyWere();
        promise17NoShuffleForSoManyCards();
        promise17PerfectShuffles();
        promise17SeveralCycles();
        promise17NoSuchSequence();
        CHECKS.end("SequenceEdgesTest");
    }

    /** A hall with decks of these sizes and with one sequence, of these kinds and numbers in turn. */
    private static ShuffleHall told(int[] sizes, int... steps) {
        ShuffleHall hall = laid(sizes);
        hall.sequence();
        for (int i = 0; i + 1 < steps.length; i += 2) {
            hall.step(0, steps[i], steps[i + 1]);
        }
        return hall;
    }

    private static int[] sizes(int... sizes) {
        return sizes;
    }

    // Promise 6: "IllegalStateException if there are 4"; section 2: "at most 4, numbered from 0".
    private static void promise6AtMostFourSequences() {
        ShuffleHall hall = new ShuffleHall();
        for (int i = 0; i < 4; i++) {
            int next = i;
            CHECKS.refused("6: not there yet", hall, INDEX, () -> hall.ofSequence(next, 0));
            CHECKS.same("6: number of sequence " + i, hall.sequence(), i);
            CHECKS.same("6: steps of sequence " + i, hall.ofSequence(i, 0), 0);
        }
        hall.step(3, 0, 1);
        CHECKS.refused("6: a fifth", hall, STATE, () -> hall.sequence(), () -> hall.sequence());
        CHECKS.same("6: there are 4", hall.many(1), 4);
        CHECKS.same("6: the fourth one keeps its step", hall.ofSequence(3, 0), 1);
        CHECKS.refused("6: no sequence 4", hall, INDEX, () -> hall.ofSequence(4, 0));
    }

    // Promise 6: "Begins a SEQUENCE without STEPS."
    private static void promise6WithoutSteps() {
        ShuffleHall hall = told(sizes(), 0, 1, 6, 2);
        CHECKS.same("6: a second one", hall.sequence(), 1);
        CHECKS.same("6: it has no steps", hall.ofSequence(1, 0), 0);
        CHECKS.same("6: the first one has its own", hall.ofSequence(0, 0), 2);
        CHECKS.same("6: its first step", hall.step(1, 9, 5), 1);
        CHECKS.same("6: of the first one there are as many", hall.ofSequence(0, 0), 2);
        CHECKS.same("6: no deck was laid", hall.many(0), 0);
    }

    // Promise 7: "IllegalArgumentException if kind is not 0 to 9, or number below 0".
    private static void promise7FirstAndLastKind() {
        ShuffleHall hall = told(sizes());
        CHECKS.refused("7: kind or number", hall, ARGUMENT, () -> hall.step(0, -1, 0), () -> hall.step(0, 10, 0),
                () -> hall.step(0, LEAST_INT, 0), () -> hall.step(0, MOST_INT, 0), () -> hall.step(0, 0, -1),
                () -> hall.step(0, 9, -1), () -> hall.step(0, 5, LEAST_INT), () -> hall.step(0, 10, -1));
        CHECKS.same("7: a refused step is none", hall.step(0, 0, 0), 1);
        CHECKS.same("7: the last kind", hall.step(0, 9, 0), 2);
        CHECKS.same("7: first step", hall.ofSequence(0, 1), 0);
        CHECKS.same("7: second step", hall.ofSequence(0, 2), 900000);
    }

    // Section 2: "in no range as it is told".
    private static void promise7NumberInNoRange() {
        for (int number : new int[] {0, 1, 5, 17, 65536, 99999, MOST_INT}) {
            for (int kind = 0; kind <= 9; kind++) {
                ShuffleHall hall = told(sizes(5));
                CHECKS.same("7: kind " + kind + " with " + number, hall.step(0, kind, number), 1);
                CHECKS.same("7: told as " + kind + " with " + number, hall.ofSequence(0, 1),
                        100000 * kind + number % 100000);
            }
        }
    }

    // Promise 7: "IllegalStateException if it has 8"; section 2: "each of at most 8 STEPS".
    private static void promise7AtMostEightSteps() {
        ShuffleHall hall = told(sizes(5));
        hall.sequence();
        for (int i = 1; i <= 8; i++) {
            CHECKS.same("7: how many steps then", hall.step(0, 6, i), i);
        }
        CHECKS.refused("7: a ninth", hall, STATE, () -> hall.step(0, 0, 0), () -> hall.step(0, 9, MOST_INT));
        CHECKS.refused("7: a ninth that is wrong, named first", hall, ARGUMENT, () -> hall.step(0, -1, 0),
                () -> hall.step(0, 10, 0), () -> hall.step(0, 0, -1), () -> hall.step(0, MOST_INT, LEAST_INT));
        for (int i = 1; i <= 8; i++) {
            CHECKS.same("7: step " + i + " stays", hall.ofSequence(0, i), 600000 + i);
        }
        CHECKS.same("7: another sequence has room", hall.step(1, 0, 0), 1);
    }

    // Promise 7: "IndexOutOfBoundsException if there is no such SEQUENCE", which is named first.
    private static void promise7NoSuchSequence() {
        ShuffleHall hall = told(sizes(5, 5, 5), 0, 1);
        for (int sequence : new int[] {-1, 1, 2, 4, LEAST_INT, MOST_INT}) {
            CHECKS.refused("7: no sequence " + sequence, hall, INDEX, () -> hall.step(sequence, 0, 0),
                    () -> hall.step(sequence, 10, 0), () -> hall.step(sequence, 0, -1),
                    () -> hall.step(sequence, -1, -1));
        }
    }

    // Section 1: "and so does a SEQUENCE that is done (with no STEPS, too), which is taken back as one".
    private static void promise8WithoutSteps() {
        ShuffleHall hall = told(sizes(5, 2));
        hall.shuffle(0, 0, 2, 1);
        hall.turn(0, 4);
        CHECKS.same("8: without steps, its top card", hall.perform(0, 0, 1), 2);
        CHECKS.same("8: without steps, cards", cards(hall, 0), "2 3 4 0 1^");
        CHECKS.same("8: without steps it counts", hall.ofDeck(0, 8), 2);
        CHECKS.same("8: without steps, 1000000 times", hall.perform(0, 0, 1000000), 2);
        CHECKS.same("8: without steps it counts once", hall.ofDeck(0, 8), 3);
        hall.turn(0, 0);
        CHECKS.same("8: without steps it is taken back", hall.undo(0), 2);
        CHECKS.same("8: with all faces", cards(hall, 0), "2 3 4 0 1^");
        CHECKS.same("8: without steps, the other deck", hall.perform(1, 0, 1), 0);
        CHECKS.same("8: shuffles of all decks", hall.many(2), 3);
    }

    // Section 2: "its STEPS in order".
    private static void promise8StepsInOrder() {
        ShuffleHall hall = told(sizes(4), 0, 1, 6, 2);
        CHECKS.same("8: CUT, then BACK", hall.perform(0, 0, 1), 2);
        CHECKS.same("8: cards of CUT, then BACK", cards(hall, 0), "2 1 3 0");
        ShuffleHall other = told(sizes(4), 6, 2, 0, 1);
        CHECKS.same("8: BACK, then CUT", other.perform(0, 0, 1), 0);
        CHECKS.same("8: cards of BACK, then CUT", cards(other, 0), "0 2 3 1");
    }

    private static void promise8AllEightSteps() {
        ShuffleHall hall = told(sizes(11), 0, 1, 0, 1, 0, 1, 0, 1, 0, 1, 0, 1, 0, 1, 0, 2);
        CHECKS.same("8: the eighth step, too", hall.perform(0, 0, 1), 9);
        ShuffleHall single = told(sizes(11), 7, 11);
        single.perform(0, 0, 1);
        CHECKS.same("8: a single step", cards(single, 0), "10^ 9^ 8^ 7^ 6^ 5^ 4^ 3^ 2^ 1^ 0^");
    }

    // Section 2: "To do a SHUFFLE or a SEQUENCE t times: one after another": all steps, then all again.
    private static void promise8OneAfterAnother() {
        ShuffleHall hall = told(sizes(4), 0, 1, 6, 2);
        CHECKS.same("8: twice", hall.perform(0, 0, 2), 3);
        CHECKS.same("8: cards of twice", cards(hall, 0), "3 1 0 2");
        for (int often : new int[] {1, 2, 3, 4, 5, 64, 100}) {
            ShuffleHall atOnce = told(sizes(9), 7, 4, 5, 3, 8, 0x125, 7, 9);
            ShuffleHall oneByOne = told(sizes(9), 7, 4, 5, 3, 8, 0x125, 7, 9);
            atOnce.perform(0, 0, often);
            for (int i = 0; i < often; i++) {
                oneByOne.perform(0, 0, 1);
            }
            CHECKS.same("8: " + often + " times", cards(atOnce, 0), cards(oneByOne, 0));
            CHECKS.same("8: counts once", atOnce.ofDeck(0, 8), 1);
            CHECKS.same("8: each counts", oneByOne.ofDeck(0, 8), often);
        }
    }

    // Promise 8: "IllegalArgumentException if often is not 1 to 1000000".
    private static void promise8OftenEdges() {
        ShuffleHall hall = told(sizes(7), 0, 1);
        hall.sequence();
        CHECKS.refused("8: often", hall, ARGUMENT, () -> hall.perform(0, 0, 0), () -> hall.perform(0, 0, -1),
                () -> hall.perform(0, 0, 1000001), () -> hall.perform(0, 0, LEAST_INT),
                () -> hall.perform(0, 0, MOST_INT), () -> hall.perform(0, 1, 0), () -> hall.perform(0, 1, 1000001));
        CHECKS.same("8: once", hall.perform(0, 0, 1), 1);
        // 1000000 is 7 * 142857 + 1.
        CHECKS.same("8: 1000000 times", hall.perform(0, 0, 1000000), 2);
        CHECKS.same("8: 999999 times", hall.perform(0, 0, 999999), 2);
        CHECKS.same("8: all are shuffles", hall.ofDeck(0, 8), 3);
        // The longest that one cycle takes: behind 16 times all faces are up, behind 32 none; 1000000 is 32 * 31250.
        ShuffleHall turning = told(sizes(16), 7, 1, 0, 1);
        turning.perform(0, 0, 1000000);
        CHECKS.same("8: cards of 1000000 times, with faces", cards(turning, 0), row(0, 15));
        turning.perform(0, 0, 999984);
        CHECKS.same("8: cards of 16 times less", cards(turning, 0), row(0, 15).replace(" ", "^ ") + "^");
    }

    // Section 2: "if one of these is not as it has to be, nothing is done"; promise 8:
    // "IllegalStateException if one of its STEPS is no SHUFFLE for it".
    private static void promise8NothingIsDoneForOneStep() {
        for (int wrong = 0; wrong < 8; wrong++) {
            ShuffleHall hall = told(sizes(5, 6));
            for (int i = 0; i < 8; i++) {
                hall.step(0, i == wrong ? 1 : 7, i == wrong ? 0 : 2);
            }
            hall.turn(0, 3);
            CHECKS.refused("8: wrong step " + wrong, hall, STATE, () -> hall.perform(0, 0, 1),
                    () -> hall.perform(0, 0, 1000000));
            CHECKS.same("8: no card was moved or turned", cards(hall, 0), "0 1 2 3^ 4");
            CHECKS.same("8: none was counted", hall.ofDeck(0, 8), 0);
            CHECKS.same("8: none to take back", hall.undo(0), NONE);
            hall.perform(1, 0, 1);
            CHECKS.same("8: it is one for the other deck", hall.ofDeck(1, 8), 1);
        }
    }

    // Section 2: "it has to be as section 1 says for the DECK which it is done with".
    private static void promise8RangesOfTheDeckThatItIsDoneWith() {
        for (int n = 2; n <= 16; n++) {
            for (int kind = 0; kind <= 9; kind++) {
                String what = "8: kind " + kind + " of " + n + " with ";
                for (int m : edges(kind, n)) {
                    ShuffleHall hall = told(sizes(n), kind, m);
                    ShuffleHall due = laid(n);
                    CHECKS.same(what + m, hall.perform(0, 0, 1), due.shuffle(0, kind, m, 1));
                    CHECKS.same(what + m + ", cards", cards(hall, 0), cards(due, 0));
                }
                for (int m : beyond(kind, n)) {
                    if (m >= 0) {
                        ShuffleHall hall = told(sizes(n), kind, m);
                        CHECKS.refused(what + m, hall, STATE, () -> hall.perform(0, 0, 1));
                    }
                }
            }
        }
    }

    // Promise 8: "IndexOutOfBoundsException if there is no such DECK, or SEQUENCE".
    private static void promise8NoSuchDeckOrSequence() {
        ShuffleHall hall = told(sizes(5, 5), 0, 1);
        for (int wrong : new int[] {-1, 2, 3, 4, LEAST_INT, MOST_INT}) {
            CHECKS.refused("8: no deck or sequence " + wrong, hall, INDEX, () -> hall.perform(wrong, 0, 1),
                    () -> hall.perform(0, wrong, 1), () -> hall.perform(wrong, wrong, 1));
        }
        CHECKS.refused("8: there is a deck 1, but no sequence 1", hall, INDEX, () -> hall.perform(1, 1, 1));
        ShuffleHall more = told(sizes(5), 0, 1);
        more.sequence();
        CHECKS.refused("8: there is a sequence 1, but no deck 1", more, INDEX, () -> more.perform(1, 1, 1));
    }

    // "If several exceptions apply, the one that is named first is thrown."
    private static void promise8WhatIsNamedFirst() {
        ShuffleHall hall = told(sizes(5), 1, 0);
        CHECKS.refused("8: no deck, and often", hall, INDEX, () -> hall.perform(1, 0, 0),
                () -> hall.perform(-1, 0, 1000001));
        CHECKS.refused("8: no sequence, and often", hall, INDEX, () -> hall.perform(0, 1, 0),
                () -> hall.perform(0, -1, 1000001));
        CHECKS.refused("8: neither, and often", hall, INDEX, () -> hall.perform(4, 4, 0));
        CHECKS.refused("8: often, and no shuffle", hall, ARGUMENT, () -> hall.perform(0, 0, 0),
                () -> hall.perform(0, 0, -1), () -> hall.perform(0, 0, 1000001));
        CHECKS.refused("8: no shuffle", hall, STATE, () -> hall.perform(0, 0, 1));
    }

    private static void promise8TakenBackAsOne() {
        ShuffleHall hall = told(sizes(5), 0, 1, 7, 3, 3, 0);
        hall.turn(0, 2);
        hall.perform(0, 0, 3);
        hall.step(0, 0, 2);
        hall.perform(0, 0, 1);
        hall.undo(0);
        CHECKS.same("8: one is left", hall.ofDeck(0, 8), 1);
        CHECKS.same("8: all its steps, all its times", hall.undo(0), 0);
        CHECKS.same("8: as ahead of it", cards(hall, 0), "0 1 2^ 3 4");
        CHECKS.same("8: the sequence keeps its steps", hall.ofSequence(0, 0), 4);
        CHECKS.same("8: none more", hall.undo(0), NONE);
    }

    // Promise 16: "IllegalArgumentException if what is not 0 to how many it has".
    private static void promise16FirstAndLastWhat() {
        ShuffleHall hall = told(sizes());
        for (int steps = 0; steps <= 8; steps++) {
            int behind = steps + 1;
            CHECKS.same("16: how many", hall.ofSequence(0, 0), steps);
            if (steps > 0) {
                CHECKS.same("16: the first of " + steps, hall.ofSequence(0, 1), 100010);
                CHECKS.same("16: the last of " + steps, hall.ofSequence(0, steps), 100000 * steps + 10 * steps);
            }
            CHECKS.refused("16: with " + steps, hall, ARGUMENT, () -> hall.ofSequence(0, behind),
                    () -> hall.ofSequence(0, -1), () -> hall.ofSequence(0, 9), () -> hall.ofSequence(0, LEAST_INT),
                    () -> hall.ofSequence(0, MOST_INT));
            if (steps < 8) {
                hall.step(0, behind, 10 * behind);
            }
        }
    }

    // Promise 16: "100000 times the KIND, plus m modulo 100000".
    private static void promise16NumberModulo100000() {
        ShuffleHall hall = told(sizes(), 0, 0, 0, 99999, 0, 100000, 0, 100001, 9, 99999, 9, 100000, 9, 200003,
                9, MOST_INT);
        int[] due = {8, 0, 99999, 0, 1, 999999, 900000, 900003, 983647};
        for (int what = 0; what <= 8; what++) {
            CHECKS.same("16: what " + what, hall.ofSequence(0, what), due[what]);
        }
        // It is m as it was told that has to be in its range, not m modulo 100000.
        ShuffleHall deck = told(sizes(5), 0, 100001);
        CHECKS.refused("16: 100001 is not 1", deck, STATE, () -> deck.perform(0, 0, 1));
        CHECKS.same("16: 100001 is not 1 for the period", deck.period(0, 5), NONE);
    }

    private static void promise16NoSuchSequence() {
        ShuffleHall hall = told(sizes(5, 5, 5), 0, 1);
        for (int sequence : new int[] {-1, 1, 2, 4, LEAST_INT, MOST_INT}) {
            CHECKS.refused("16: no sequence " + sequence, hall, INDEX, () -> hall.ofSequence(sequence, 0),
                    () -> hall.ofSequence(sequence, 1), () -> hall.ofSequence(sequence, -1),
                    () -> hall.ofSequence(sequence, 9));
        }
    }

    // Promise 17: "IllegalArgumentException if cards is not 2 to 16".
    private static void promise17FewestAndMostCards() {
        ShuffleHall hall = told(sizes(), 0, 1);
        CHECKS.refused("17: cards", hall, ARGUMENT, () -> hall.period(0, 1), () -> hall.period(0, 17),
                () -> hall.period(0, 0), () -> hall.period(0, -1), () -> hall.period(0, -2),
                () -> hall.period(0, LEAST_INT), () -> hall.period(0, MOST_INT));
        for (int n = 2; n <= 16; n++) {
            CHECKS.same("17: a CUT by one of " + n, hall.period(0, n), n);
        }
        ShuffleHall wrong = told(sizes(), 0, 16);
        CHECKS.refused("17: cards, and a step that is no shuffle", wrong, ARGUMENT, () -> wrong.period(0, 1),
                () -> wrong.period(0, 17));
        CHECKS.same("17: no deck is needed, nor laid", hall.many(0), 0);
    }

    // Section 2: "after how many times (at least once)".
    private static void promise17AtLeastOnce() {
        ShuffleHall none = told(sizes());
        ShuffleHall nothing = told(sizes(), 0, 0, 6, 1, 7, 0, 8, 0, 9, 0);
        ShuffleHall back = told(sizes(), 6, 2, 6, 2);
        for (int n = 2; n <= 16; n++) {
            CHECKS.same("17: without steps, " + n, none.period(0, n), 1);
            CHECKS.same("17: steps that leave all, " + n, nothing.period(0, n), 1);
            CHECKS.same("17: there and back, " + n, back.period(0, n), 1);
        }
    }

    // Section 2: "all CARDS are where they were, and with their FACES as they were".
    private static void promise17FacesAsTheyWere() {
        ShuffleHall over = told(sizes(), 7, 1);
        ShuffleHall all = told(sizes(), 7, 2, 6, 2);
        // A CUT by one and the top card turned: behind n times all are turned, behind 2 n none.
        ShuffleHall round = told(sizes(), 7, 1, 0, 1);
        ShuffleHall two = told(sizes(), 7, 2, 0, 1, 7, 1);
        ShuffleHall twice = told(sizes(), 7, 1, 7, 1);
        for (int n = 2; n <= 16; n++) {
            CHECKS.same("17: the top card turned, " + n, over.period(0, n), 2);
            CHECKS.same("17: two cards turned where they are, " + n, all.period(0, n), 2);
            CHECKS.same("17: one turned each time round, " + n, round.period(0, n), 2 * n);
            CHECKS.same("17: turned twice, " + n, twice.period(0, n), 1);
        }
        // 0 1 2 becomes 0 2 1^: behind 2 times 1 and 2 are where they were, but turned.
        CHECKS.same("17: faces make it longer", two.period(0, 3), 4);
        // The faces of a deck that is there are not asked.
        ShuffleHall turned = told(sizes(5), 0, 1);
        turned.turn(0, 2);
        CHECKS.same("17: faces of a deck", turned.period(0, 5), 5);
    }

    // Promise 17: "NONE, if one of its STEPS is no SHUFFLE for n CARDS".
    private static void promise17NoShuffleForSoManyCards() {
        for (int n = 2; n <= 16; n++) {
            for (int kind = 0; kind <= 9; kind++) {
                String what = "17: kind " + kind + " of " + n + " with ";
                for (int m : edges(kind, n)) {
                    CHECKS.same(what + m, told(sizes(), kind, m).period(0, n) >= 1, true);
                }
                for (int m : beyond(kind, n)) {
                    if (m >= 0) {
                        CHECKS.same(what + m, told(sizes(), kind, m).period(0, n), NONE);
                    }
                }
            }
        }
        for (int wrong = 0; wrong < 8; wrong++) {
            ShuffleHall hall = told(sizes());
            for (int i = 0; i < 8; i++) {
                hall.step(0, i == wrong ? 2 : 0, i == wrong ? 0 : 1);
            }
            CHECKS.same("17: wrong step " + wrong, hall.period(0, 7), NONE);
            CHECKS.same("17: for an even n it is one", hall.period(0, 8) >= 1, true);
        }
    }

    // Perfect shuffles: OUT of n is back when 2^t leaves 1 for n less 1, IN when it does for n plus 1.
    private static void promise17PerfectShuffles() {
        int[] out = {1, 2, 4, 3, 6, 10, 12, 4};
        int[] in = {2, 4, 3, 6, 10, 12, 4, 8};
        ShuffleHall outs = told(sizes(), 1, 0);
        ShuffleHall ins = told(sizes(), 2, 0);
        for (int i = 0; i < 8; i++) {
            CHECKS.same("17: OUT of " + (2 * i + 2), outs.period(0, 2 * i + 2), out[i]);
            CHECKS.same("17: IN of " + (2 * i + 2), ins.period(0, 2 * i + 2), in[i]);
        }
    }

    // A RIFFLE whose bits are all 1 but the bit k lets the top card sink to the position k. So the top
    // 7 cards go round, then the next 5, then the last 4: all are back behind 7 * 5 * 4 times. With one
    // of the 4 turned each time, these are back behind 8 times, and all behind 7 * 5 * 8.
    private static void promise17SeveralCycles() {
        int all = (1 << 16) - 1;
        int[] steps = {8, all - 64, 0, 7, 8, all - 16, 0, 5, 8, all - 8, 0, 4};
        ShuffleHall hall = told(sizes(16), steps);
        CHECKS.same("17: of 7, 5 and 4", hall.period(0, 16), 140);
        hall.perform(0, 0, 1);
        CHECKS.same("17: done once", cards(hall, 0), "1 2 3 4 5 6 0 8 9 10 11 7 13 14 15 12");
        CHECKS.same("17: of the placement", hall.ofDeck(0, 3), 140);
        int[] turning = {8, all - 64, 0, 7, 8, all - 16, 0, 5, 7, 1, 8, all - 8, 0, 4};
        CHECKS.same("17: with one turned", told(sizes(), turning).period(0, 16), 280);
        for (int often : new int[] {140, 70, 28, 20, 280}) {
            ShuffleHall deck = told(sizes(16), turning);
            deck.perform(0, 0, often);
            CHECKS.same("17: placement behind " + often, deck.keeps(0, 4), often % 140 == 0);
            CHECKS.same("17: faces behind " + often, deck.ofDeck(0, 7) == 0, often == 280);
        }
    }

    private static void promise17NoSuchSequence() {
        ShuffleHall hall = told(sizes(5, 5, 5), 0, 1);
        for (int sequence : new int[] {-1, 1, 2, 4, LEAST_INT, MOST_INT}) {
            CHECKS.refused("17: no sequence " + sequence, hall, INDEX, () -> hall.period(sequence, 5),
                    () -> hall.period(sequence, 1), () -> hall.period(sequence, 17));
        }
    }
}
