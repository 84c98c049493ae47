/**
 * "A method that throws an exception changes nothing. If several exceptions apply, the one that is
 * named first is thrown." For each method that throws: each exception alone and each two that can
 * apply together; and behind each refused call the hall is compared with one that was never asked.
 * And the calls under "what one asks" and "what would be (nothing is changed)" change nothing.
 */
public final class RefusalsTest extends TestBase {
    private interface Call {
        Object on(ShuffleHall hall);
    }

    private interface Stage {
        ShuffleHall hall();
    }

    public static void main(String[] args) {
        promise2Deck();
        promise3Shuffle();
        promise4Undo();
        promise5Turn();
        promise6Sequence();
        promise7Step();
        promise8Perform();
        promise9Card();
        promise10Find();
        promise11OfDeck();
        promise12Keeps();
        promise13Chance();
        promise14Far();
        promise15Alike();
        promise16OfSequence();
        promise17Period();
        promise18Many();
        promise19ToTop();
        promise20Goes();
        promise21Best();
        promise22Riffle();
        askingChangesNothing();
        CHECKS.end("RefusalsTest");
    }

    private static ShuffleHall none() {
        return new ShuffleHall();
    }

    /**
     * Three decks, of 5, 6 and 16 cards, with shuffles, faces that are up, and one taken back; the deck
     * 2 has lost its oldest shuffle. The sequence 0 is one for even decks alone, 1 has 8 steps and is
     * one for all, 2 has none.
     */
    private static ShuffleHall some() {
        ShuffleHall hall = laid(5, 6, 16);
        for (int i = 0; i < 3; i++) {
            hall.sequence();
        }
        hall.step(0, 0, 1);
        hall.step(0, 1, 0);
        for (int i = 0; i < 8; i++) {
            hall.step(1, 7, 1 + i % 5);
        }
        hall.turn(0, 1);
        hall.shuffle(0, 7, 3, 1);
        hall.shuffle(0, 0, 2, 3);
        hall.turn(0, 4);
        hall.perform(1, 0, 2);
        hall.shuffle(1, 5, 4, 1);
        hall.undo(1);
        for (int i = 0; i < 41; i++) {
            hall.shuffle(2, 0, 1, 1);
        }
        return hall;
    }

    private static ShuffleHall full() {
        ShuffleHall hall = some();
        hall.deck(2);
        hall.sequence();
        return hall;
    }

    /**
     * All that a hall keeps, which is used up by that: cards, faces, counts and steps; what can be taken
     * back; and how much room there is. With what a stage needs these are fewer than 512 calls.
     */
    private static String allOf(ShuffleHall hall) {
        StringBuilder text = new StringBuilder().append(hall.digest());
        for (int deck = 0; deck < hall.many(0); deck++) {
            text.append(" | ").append(cards(hall, deck));
        }
        for (int sequence = 0; sequence < hall.many(1); sequence++) {
            text.append(" | steps");
            for (int what = 1; what <= hall.ofSequence(sequence, 0); what++) {
                text.append(' ').append(hall.ofSequence(sequence, what));
            }
        }
        for (int deck = 0; deck < hall.many(0); deck++) {
            int top = hall.undo(deck);
            while (top != NONE) {
                text.append(" undo ").append(top).append(' ').append(hall.digest());
                top = hall.undo(deck);
            }
        }
        text.append(" room ").append(hall.digest());
        for (int i = 0; i < 5; i++) {
            text.append(' ').append(Checks.outcome(() -> hall.deck(3)));
            text.append(' ').append(Checks.outcome(() -> hall.sequence()));
        }
        for (int i = 0; i < 12; i++) {
            int sequence = i % 4;
            text.append(' ').append(Checks.outcome(() -> hall.step(sequence, 0, 0)));
        }
        return text.append(' ').append(hall.digest()).toString();
    }

    /** Each call on a hall of its own, and once: two that turn a card would leave it as it was. */
    private static void refused(String what, Stage stage, Class<? extends RuntimeException> due, Call... calls) {
        String before = allOf(stage.hall());
        for (int i = 0; i < calls.length; i++) {
            Call call = calls[i];
            ShuffleHall hall = stage.hall();
            CHECKS.raises(what + ", call " + i, due, () -> call.on(hall));
            CHECKS.same(what + ", behind call " + i, allOf(hall), before);
        }
    }

    private static void promise2Deck() {
        refused("2: cards", RefusalsTest::none, ARGUMENT, h -> h.deck(1), h -> h.deck(17));
        refused("2: cards, three decks", RefusalsTest::some, ARGUMENT, h -> h.deck(1), h -> h.deck(17),
                h -> h.deck(0), h -> h.deck(-1), h -> h.deck(LEAST_INT), h -> h.deck(MOST_INT));
        refused("2: there are 4", RefusalsTest::full, STATE, h -> h.deck(2), h -> h.deck(9), h -> h.deck(16));
        refused("2: cards, and there are 4", RefusalsTest::full, ARGUMENT, h -> h.deck(1), h -> h.deck(17),
                h -> h.deck(0), h -> h.deck(-1), h -> h.deck(LEAST_INT), h -> h.deck(MOST_INT));
    }

    private static void promise3Shuffle() {
        refused("3: no deck at all", RefusalsTest::none, INDEX, h -> h.shuffle(0, 0, 0, 1),
                h -> h.shuffle(-1, 0, 0, 1));
        refused("3: no such deck", RefusalsTest::some, INDEX, h -> h.shuffle(3, 0, 0, 1),
                h -> h.shuffle(-1, 0, 0, 1), h -> h.shuffle(4, 0, 0, 1), h -> h.shuffle(LEAST_INT, 0, 0, 1),
                h -> h.shuffle(MOST_INT, 0, 0, 1));
        refused("3: no deck 4", RefusalsTest::full, INDEX, h -> h.shuffle(4, 0, 0, 1));
        refused("3: no such deck, and no shuffle", RefusalsTest::some, INDEX, h -> h.shuffle(3, 10, 0, 1),
                h -> h.shuffle(-1, -1, 0, 1), h -> h.shuffle(3, 0, -1, 1), h -> h.shuffle(3, 0, 16, 1));
        refused("3: no such deck, and often", RefusalsTest::some, INDEX, h -> h.shuffle(3, 0, 0, 0),
                h -> h.shuffle(-1, 0, 0, 1000001), h -> h.shuffle(3, 10, -1, 0));
        refused("3: no shuffle for it", RefusalsTest::some, ARGUMENT, h -> h.shuffle(0, 10, 0, 1),
                h -> h.shuffle(0, -1, 0, 1), h -> h.shuffle(0, 0, 5, 1), h -> h.shuffle(0, 1, 0, 1),
                h -> h.shuffle(0, 2, 0, 1), h -> h.shuffle(1, 1, 1, 1), h -> h.shuffle(1, 2, 1, 1),
                h -> h.shuffle(2, 3, 1, 1), h -> h.shuffle(2, 4, 1, 1), h -> h.shuffle(2, 5, 1, 1),
                h -> h.shuffle(2, 5, 5, 1), h -> h.shuffle(2, 6, 17, 1), h -> h.shuffle(2, 7, 17, 1),
                h -> h.shuffle(2, 8, 65536, 1), h -> h.shuffle(2, 9, 32768, 1), h -> h.shuffle(2, 7, -1, 1));
        refused("3: often", RefusalsTest::some, ARGUMENT, h -> h.shuffle(0, 0, 1, 0), h -> h.shuffle(2, 7, 1, 0),
                h -> h.shuffle(2, 0, 1, 1000001), h -> h.shuffle(2, 0, 1, LEAST_INT), h -> h.shuffle(1, 7, 1, -1));
        refused("3: no shuffle for it, and often", RefusalsTest::some, ARGUMENT, h -> h.shuffle(2, 10, 0, 0),
                h -> h.shuffle(0, 1, 0, 1000001));
    }

    private static void promise4Undo() {
        refused("4: no deck at all", RefusalsTest::none, INDEX, h -> h.undo(0), h -> h.undo(-1));
        refused("4: no such deck", RefusalsTest::some, INDEX, h -> h.undo(3), h -> h.undo(-1), h -> h.undo(4),
                h -> h.undo(LEAST_INT), h -> h.undo(MOST_INT));
        refused("4: no deck 4", RefusalsTest::full, INDEX, h -> h.undo(4));
    }

    private static void promise5Turn() {
        refused("5: no deck at all", RefusalsTest::none, INDEX, h -> h.turn(0, 0));
        refused("5: no such deck", RefusalsTest::some, INDEX, h -> h.turn(3, 0), h -> h.turn(-1, 0),
                h -> h.turn(4, 0), h -> h.turn(LEAST_INT, 0), h -> h.turn(MOST_INT, 0));
        refused("5: no such position", RefusalsTest::some, INDEX, h -> h.turn(0, 5), h -> h.turn(0, -1),
                h -> h.turn(1, 6), h -> h.turn(2, 16), h -> h.turn(0, LEAST_INT), h -> h.turn(0, MOST_INT));
        refused("5: neither", RefusalsTest::some, INDEX, h -> h.turn(3, -1), h -> h.turn(-1, 16));
    }

    private static void promise6Sequence() {
        refused("6: there are 4", RefusalsTest::full, STATE, h -> h.sequence());
    }

    private static void promise7Step() {
        refused("7: no sequence at all", RefusalsTest::none, INDEX, h -> h.step(0, 0, 0), h -> h.step(0, 10, -1));
        refused("7: no such sequence", RefusalsTest::some, INDEX, h -> h.step(3, 0, 0), h -> h.step(-1, 0, 0),
                h -> h.step(4, 0, 0), h -> h.step(LEAST_INT, 0, 0), h -> h.step(MOST_INT, 0, 0));
        refused("7: no sequence 4", RefusalsTest::full, INDEX, h -> h.step(4, 0, 0));
        refused("7: no such sequence, and kind or number", RefusalsTest::some, INDEX, h -> h.step(3, 10, 0),
                h -> h.step(-1, -1, 0), h -> h.step(3, 0, -1), h -> h.step(-1, 10, -1));
        refused("7: kind or number", RefusalsTest::some, ARGUMENT, h -> h.step(0, 10, 0), h -> h.step(0, -1, 0),
                h -> h.step(0, 0, -1), h -> h.step(2, 10, -1), h -> h.step(2, MOST_INT, 0),
                h -> h.step(2, LEAST_INT, 0), h -> h.step(2, 9, LEAST_INT));
        refused("7: it has 8", RefusalsTest::some, STATE, h -> h.step(1, 0, 0), h -> h.step(1, 9, MOST_INT));
        refused("7: kind or number, and it has 8", RefusalsTest::some, ARGUMENT, h -> h.step(1, 10, 0),
                h -> h.step(1, -1, 0), h -> h.step(1, 0, -1), h -> h.step(1, 10, -1));
    }

    private static void promise8Perform() {
        refused("8: none at all", RefusalsTest::none, INDEX, h -> h.perform(0, 0, 1), h -> h.perform(0, 0, 0));
        refused("8: no such deck", RefusalsTest::some, INDEX, h -> h.perform(3, 2, 1), h -> h.perform(-1, 2, 1),
                h -> h.perform(4, 2, 1), h -> h.perform(LEAST_INT, 2, 1), h -> h.perform(MOST_INT, 2, 1));
        refused("8: no such sequence", RefusalsTest::some, INDEX, h -> h.perform(0, 3, 1), h -> h.perform(0, -1, 1),
                h -> h.perform(0, 4, 1), h -> h.perform(0, LEAST_INT, 1), h -> h.perform(0, MOST_INT, 1));
        refused("8: neither", RefusalsTest::some, INDEX, h -> h.perform(3, 3, 1), h -> h.perform(-1, 4, 1));
        refused("8: no deck 4, no sequence 4", RefusalsTest::full, INDEX, h -> h.perform(4, 0, 1),
                h -> h.perform(0, 4, 1));
        refused("8: no such deck or sequence, and often", RefusalsTest::some, INDEX, h -> h.perform(3, 2, 0),
                h -> h.perform(0, 3, 0), h -> h.perform(-1, 0, 1000001), h -> h.perform(0, -1, 1000001));
        refused("8: often", RefusalsTest::some, ARGUMENT, h -> h.perform(0, 1, 0), h -> h.perform(2, 1, 1000001),
                h -> h.perform(0, 2, 0), h -> h.perform(0, 2, LEAST_INT), h -> h.perform(0, 2, MOST_INT));
        refused("8: often, and no shuffle for it", RefusalsTest::some, ARGUMENT, h -> h.perform(0, 0, 0),
                h -> h.perform(0, 0, 1000001), h -> h.perform(0, 0, -1));
        refused("8: no shuffle for it", RefusalsTest::some, STATE, h -> h.perform(0, 0, 1),
                h -> h.perform(0, 0, 1000000));
        refused("8: no shuffle for two cards", RefusalsTest::full, STATE, h -> h.perform(3, 1, 1));
    }

    private static void promise9Card() {
        refused("9: no deck at all", RefusalsTest::none, INDEX, h -> h.card(0, 0));
        refused("9", RefusalsTest::some, INDEX, h -> h.card(3, 0), h -> h.card(-1, 0), h -> h.card(0, 5),
                h -> h.card(0, -1), h -> h.card(2, 16), h -> h.card(3, -1));
    }

    private static void promise10Find() {
        refused("10: no deck at all", RefusalsTest::none, INDEX, h -> h.find(0, 0, true), h -> h.find(0, 0, false));
        refused("10", RefusalsTest::some, INDEX, h -> h.find(3, 0, true), h -> h.find(-1, 0, false),
                h -> h.find(0, 5, true), h -> h.find(0, 5, false), h -> h.find(0, -1, true),
                h -> h.find(2, 16, false), h -> h.find(3, -1, false));
    }

    private static void promise11OfDeck() {
        refused("11: no deck at all", RefusalsTest::none, INDEX, h -> h.ofDeck(0, 0), h -> h.ofDeck(0, 11));
        refused("11: no such deck", RefusalsTest::some, INDEX, h -> h.ofDeck(3, 0), h -> h.ofDeck(-1, 10));
        refused("11: no such deck, and what", RefusalsTest::some, INDEX, h -> h.ofDeck(3, 11), h -> h.ofDeck(-1, -1));
        refused("11: what", RefusalsTest::some, ARGUMENT, h -> h.ofDeck(0, 11), h -> h.ofDeck(2, -1));
    }

    private static void promise12Keeps() {
        refused("12: no deck at all", RefusalsTest::none, INDEX, h -> h.keeps(0, 0), h -> h.keeps(0, 6));
        refused("12: no such deck", RefusalsTest::some, INDEX, h -> h.keeps(3, 0), h -> h.keeps(-1, 5));
        refused("12: no such deck, and what", RefusalsTest::some, INDEX, h -> h.keeps(3, 6), h -> h.keeps(-1, -1));
        refused("12: what", RefusalsTest::some, ARGUMENT, h -> h.keeps(0, 6), h -> h.keeps(2, -1));
    }

    private static void promise13Chance() {
        refused("13: no deck at all", RefusalsTest::none, INDEX, h -> h.chance(0, 0), h -> h.chance(0, 13));
        refused("13: no such deck", RefusalsTest::some, INDEX, h -> h.chance(3, 0), h -> h.chance(-1, 12));
        refused("13: no such deck, and riffles", RefusalsTest::some, INDEX, h -> h.chance(3, 13),
                h -> h.chance(-1, -1));
        refused("13: riffles", RefusalsTest::some, ARGUMENT, h -> h.chance(0, 13), h -> h.chance(2, -1));
    }

    private static void promise14Far() {
        refused("14: no deck at all", RefusalsTest::none, INDEX, h -> h.far(0));
        refused("14", RefusalsTest::some, INDEX, h -> h.far(3), h -> h.far(-1));
    }

    private static void promise15Alike() {
        refused("15: no deck at all", RefusalsTest::none, INDEX, h -> h.alike(0, 0));
        refused("15", RefusalsTest::some, INDEX, h -> h.alike(3, 0), h -> h.alike(0, 3), h -> h.alike(-1, 0),
                h -> h.alike(0, -1), h -> h.alike(3, 3), h -> h.alike(-1, 4));
    }

    private static void promise16OfSequence() {
        refused("16: no sequence at all", RefusalsTest::none, INDEX, h -> h.ofSequence(0, 0),
                h -> h.ofSequence(0, 1));
        refused("16: no such sequence", RefusalsTest::some, INDEX, h -> h.ofSequence(3, 0), h -> h.ofSequence(-1, 0));
        refused("16: no such sequence, and what", RefusalsTest::some, INDEX, h -> h.ofSequence(3, 9),
                h -> h.ofSequence(-1, -1), h -> h.ofSequence(3, 1));
        refused("16: what", RefusalsTest::some, ARGUMENT, h -> h.ofSequence(0, 3), h -> h.ofSequence(0, -1),
                h -> h.ofSequence(1, 9), h -> h.ofSequence(2, 1));
    }

    private static void promise17Period() {
        refused("17: no sequence at all", RefusalsTest::none, INDEX, h -> h.period(0, 8), h -> h.period(0, 1));
        refused("17: no such sequence", RefusalsTest::some, INDEX, h -> h.period(3, 8), h -> h.period(-1, 8));
        refused("17: no such sequence, and cards", RefusalsTest::some, INDEX, h -> h.period(3, 1),
                h -> h.period(-1, 17));
        refused("17: cards", RefusalsTest::some, ARGUMENT, h -> h.period(0, 1), h -> h.period(0, 17),
                h -> h.period(1, 0), h -> h.period(2, -1));
    }

    private static void promise18Many() {
        refused("18: new", RefusalsTest::none, ARGUMENT, h -> h.many(-1), h -> h.many(6));
        refused("18", RefusalsTest::some, ARGUMENT, h -> h.many(-1), h -> h.many(6));
    }

    private static void promise19ToTop() {
        refused("19: no deck at all", RefusalsTest::none, INDEX, h -> h.toTop(0, 0));
        refused("19", RefusalsTest::some, INDEX, h -> h.toTop(3, 0), h -> h.toTop(-1, 0), h -> h.toTop(0, 5),
                h -> h.toTop(1, 6), h -> h.toTop(1, -1), h -> h.toTop(3, -1));
    }

    private static void promise20Goes() {
        refused("20: no deck at all", RefusalsTest::none, INDEX, h -> h.goes(0, 0, 0, 0), h -> h.goes(0, 0, 10, 0));
        refused("20: no such deck or position", RefusalsTest::some, INDEX, h -> h.goes(3, 0, 0, 0),
                h -> h.goes(-1, 0, 0, 0), h -> h.goes(0, 5, 0, 0), h -> h.goes(0, -1, 0, 0), h -> h.goes(3, -1, 0, 0));
        refused("20: no such deck or position, and no shuffle", RefusalsTest::some, INDEX,
                h -> h.goes(3, 0, 10, 0), h -> h.goes(-1, 0, 0, -1), h -> h.goes(0, 5, 1, 0), h -> h.goes(0, -1, 0, 5));
        refused("20: no shuffle", RefusalsTest::some, ARGUMENT, h -> h.goes(0, 0, 1, 0), h -> h.goes(0, 0, 10, 0),
                h -> h.goes(0, 4, -1, 0), h -> h.goes(1, 5, 0, 6), h -> h.goes(2, 15, 8, 65536));
    }

    private static void promise21Best() {
        refused("21: no deck at all", RefusalsTest::none, INDEX, h -> h.best(0));
        refused("21", RefusalsTest::some, INDEX, h -> h.best(3), h -> h.best(-1));
    }

    private static void promise22Riffle() {
        refused("22: no deck at all", RefusalsTest::none, INDEX, h -> h.riffle(0));
        refused("22", RefusalsTest::some, INDEX, h -> h.riffle(3), h -> h.riffle(-1));
    }

    // Promises 9 to 23 are asked; each answer is as another hall's that was asked nothing before.
    private static void askingChangesNothing() {
        Call[] asking = {
            h -> h.card(2, 15), h -> h.find(0, 4, true), h -> h.find(0, 4, false), h -> h.ofDeck(2, 3),
            h -> h.ofDeck(2, 8), h -> h.ofDeck(1, 10), h -> h.keeps(2, 2), h -> h.keeps(1, 1), h -> h.chance(0, 12),
            h -> h.far(1), h -> h.alike(0, 2), h -> h.ofSequence(1, 8), h -> h.period(0, 16), h -> h.period(0, 5),
            h -> h.period(1, 5), h -> h.many(2), h -> h.many(3), h -> h.toTop(1, 5), h -> h.goes(2, 15, 7, 16),
            h -> h.goes(1, 0, 2, 0), h -> h.best(1), h -> h.riffle(2), h -> h.riffle(0), h -> h.digest(),
        };
        String before = allOf(some());
        for (int i = 0; i < asking.length; i++) {
            ShuffleHall hall = some();
            Object first = asking[i].on(hall);
            CHECKS.same("asked again " + i, asking[i].on(hall), first);
            CHECKS.same("behind asking " + i, allOf(hall), before);
        }
        ShuffleHall hall = some();
        for (Call each : asking) {
            each.on(hall);
        }
        CHECKS.same("behind asking all", allOf(hall), before);
    }
}
