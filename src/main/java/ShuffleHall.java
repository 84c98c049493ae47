/** Cards that are shuffled by rule. */
public final class ShuffleHall {
    private static final int NONE = -1;
    private static final int MOST_DECKS = 4;
    private static final int MOST_SEQUENCES = 4;
    private static final int MOST_STEPS = 8;
    private static final int FEWEST_CARDS = 2;
    private static final int MOST_CARDS = 16;
    private static final int MOST_KEPT = 40;
    private static final int MOST_OFTEN = 1000000;
    private static final int MOST_RIFFLES = 12;

    private static final int CUT = 0;
    private static final int OUT = 1;
    private static final int IN = 2;
    private static final int MONGE = 3;
    private static final int MILK = 4;
    private static final int DEAL = 5;
    private static final int BACK = 6;
    private static final int OVER = 7;
    private static final int RIFFLE = 8;
    private static final int PACKETS = 9;

    private static final int LAST_OF_DECK = 10;
    private static final int LAST_KEEPS = 5;
    private static final int LAST_MANY = 5;
    private static final int STEP_KIND_WEIGHT = 100000;
    private static final long DIGEST_START = 58304L;
    private static final int DIGEST_PERIOD_CARDS = 8;

    private final Deck[] decks = new Deck[MOST_DECKS];
    private final Sequence[] sequences = new Sequence[MOST_SEQUENCES];
    private int deckCount;
    private int sequenceCount;
    private int takenBack;

    // Rows that single calls reckon with; no call leaves anything in them for the next one.
    private final Row move = new Row();
    private final Row stepMove = new Row();
    private final Row trial = new Row();

    public ShuffleHall() {
        for (int i = 0; i < MOST_DECKS; i++) {
            decks[i] = new Deck();
        }
        for (int i = 0; i < MOST_SEQUENCES; i++) {
            sequences[i] = new Sequence();
        }
    }

    // ---- decks

    public int deck(int cards) throws IllegalArgumentException, IllegalStateException {
        if (!isDeckSize(cards)) {
            throw new IllegalArgumentException("cards is not 2 to 16");
        }
        if (deckCount >= MOST_DECKS) {
            throw new IllegalStateException("there are 4 decks");
        }
        decks[deckCount].begin(cards);
        deckCount++;
        return deckCount - 1;
    }

    public int shuffle(int deck, int kind, int number, int often)
            throws IndexOutOfBoundsException, IllegalArgumentException {
        Deck laid = needDeck(deck);
        if (!Shuffles.lay(move, kind, number, laid.row().size())) {
            throw new IllegalArgumentException("no shuffle for this deck");
        }
        needOften(often);
        laid.put(move, often);
        return laid.row().numberAt(0);
    }

    public int undo(int deck) throws IndexOutOfBoundsException {
        Deck laid = needDeck(deck);
        if (!laid.takeBack()) {
            return NONE;
        }
        takenBack++;
        return laid.row().numberAt(0);
    }

    public boolean turn(int deck, int position) throws IndexOutOfBoundsException {
        Row row = needDeck(deck).row();
        needPosition(row, position);
        row.turnAt(position);
        return row.isTurnedAt(position);
    }

    public int sequence() throws IllegalStateException {
        if (sequenceCount >= MOST_SEQUENCES) {
            throw new IllegalStateException("there are 4 sequences");
        }
        sequenceCount++;
        return sequenceCount - 1;
    }

    public int step(int sequence, int kind, int number)
            throws IndexOutOfBoundsException, IllegalArgumentException, IllegalStateException {
        Sequence told = needSequence(sequence);
        if (!isWithin(kind, CUT, PACKETS) || number < 0) {
            throw new IllegalArgumentException("kind is not 0 to 9, or number below 0");
        }
        if (told.length() >= MOST_STEPS) {
            throw new IllegalStateException("the sequence has 8 steps");
        }
        told.add(kind, number);
        return told.length();
    }

    public int perform(int deck, int sequence, int often)
            throws IndexOutOfBoundsException, IllegalArgumentException, IllegalStateException {
        Deck laid = needDeck(deck);
        Sequence told = needSequence(sequence);
        needOften(often);
        if (!told.lay(move, stepMove, laid.row().size())) {
            throw new IllegalStateException("a step is no shuffle for this deck");
        }
        laid.put(move, often);
        return laid.row().numberAt(0);
    }

    // ---- what one asks

    public int card(int deck, int position) throws IndexOutOfBoundsException {
        Row row = needDeck(deck).row();
        needPosition(row, position);
        return row.numberAt(position);
    }

    public int find(int deck, int card, boolean isFace) throws IndexOutOfBoundsException {
        Row row = needDeck(deck).row();
        if (!row.has(card)) {
            throw new IndexOutOfBoundsException("no such card");
        }
        int position = row.placeOf(card);
        if (isFace) {
            return row.isTurnedAt(position) ? 1 : 0;
        }
        return position;
    }

    public int ofDeck(int deck, int what) throws IndexOutOfBoundsException, IllegalArgumentException {
        Deck laid = needDeck(deck);
        needWhat(what, LAST_OF_DECK);
        Row row = laid.row();
        switch (what) {
            case 0:
                return row.size();
            case 1:
                return Cycles.count(row);
            case 2:
                return Cycles.fixed(row);
            case 3:
                return Cycles.placementPeriod(row);
            case 4:
                return Measures.inversions(row);
            case 5:
                return Measures.risingRuns(row);
            case 6:
                return Measures.rifflesNeeded(Measures.risingRuns(row));
            case 7:
                return Measures.facesUp(row);
            case 8:
                return laid.shuffleCount();
            case 9:
                return Cycles.longest(row);
            default:
                return Measures.longestRise(row);
        }
    }

    public boolean keeps(int deck, int what) throws IndexOutOfBoundsException, IllegalArgumentException {
        Row row = needDeck(deck).row();
        needWhat(what, LAST_KEEPS);
        switch (what) {
            case 0:
                return Measures.keepsGroups(row, 2);
            case 1:
                return Measures.keepsGroups(row, 4);
            case 2:
                return Measures.isWhole(row);
            case 3:
                return Measures.inversions(row) % 2 == 0;
            case 4:
                return Cycles.fixed(row) == row.size();
            default:
                return Measures.isMirrored(row);
        }
    }

    public double chance(int deck, int riffles) throws IndexOutOfBoundsException, IllegalArgumentException {
        Row row = needDeck(deck).row();
        if (!isWithin(riffles, 0, MOST_RIFFLES)) {
            throw new IllegalArgumentException("riffles is not 0 to 12");
        }
        int packets = 1 << riffles;
        int runs = Measures.risingRuns(row);
        if (packets < runs) {
            return 0.0;
        }
        double result = 1.0;
        for (int i = 1; i <= row.size(); i++) {
            result = result * (double) (packets - runs + i);
            result = result / (double) i;
            result = result / (double) packets;
        }
        return result;
    }

    public double far(int deck) throws IndexOutOfBoundsException {
        Row row = needDeck(deck).row();
        int size = row.size();
        int sum = 0;
        for (int i = 0; i < size; i++) {
            sum += Math.abs(i - row.numberAt(i));
        }
        return (double) sum / (double) size;
    }

    public int alike(int one, int other) throws IndexOutOfBoundsException {
        Row oneRow = needDeck(one).row();
        Row otherRow = needDeck(other).row();
        int both = Math.min(oneRow.size(), otherRow.size());
        int count = 0;
        for (int i = 0; i < both; i++) {
            if (oneRow.numberAt(i) == otherRow.numberAt(i)
                    && oneRow.isTurnedAt(i) == otherRow.isTurnedAt(i)) {
                count++;
            }
        }
        return count;
    }

    public int ofSequence(int sequence, int what) throws IndexOutOfBoundsException, IllegalArgumentException {
        Sequence told = needSequence(sequence);
        needWhat(what, told.length());
        if (what == 0) {
            return told.length();
        }
        return told.kindAt(what - 1) * STEP_KIND_WEIGHT + told.numberAt(what - 1) % STEP_KIND_WEIGHT;
    }

    public int period(int sequence, int cards) throws IndexOutOfBoundsException, IllegalArgumentException {
        Sequence told = needSequence(sequence);
        if (!isDeckSize(cards)) {
            throw new IllegalArgumentException("cards is not 2 to 16");
        }
        if (!told.lay(move, stepMove, cards)) {
            return NONE;
        }
        return Cycles.fullPeriod(move);
    }

    public int many(int what) throws IllegalArgumentException {
        needWhat(what, LAST_MANY);
        switch (what) {
            case 0:
                return deckCount;
            case 1:
                return sequenceCount;
            case 2:
                return shufflesOfAll();
            case 3:
                return takenBack;
            case 4:
                return cardsOfAll();
            default:
                return facesUpOfAll();
        }
    }

    // ---- what would be (nothing is changed)

    public int toTop(int deck, int position) throws IndexOutOfBoundsException {
        Row row = needDeck(deck).row();
        needPosition(row, position);
        int size = row.size();
        if (size % 2 != 0) {
            return NONE;
        }
        int reached = 1 << position;
        for (int times = 0; times <= size; times++) {
            if ((reached & 1) != 0) {
                return times;
            }
            reached = behindOutOrIn(reached, size / 2);
        }
        return NONE;
    }

    public int goes(int deck, int position, int kind, int number)
            throws IndexOutOfBoundsException, IllegalArgumentException {
        Row row = needDeck(deck).row();
        needPosition(row, position);
        if (!Shuffles.lay(move, kind, number, row.size())) {
            throw new IllegalArgumentException("no shuffle for this deck");
        }
        return move.placeOf(position);
    }

    public int best(int deck) throws IndexOutOfBoundsException {
        Row row = needDeck(deck).row();
        int bestKind = NONE;
        int fewest = 0;
        for (int kind = OUT; kind <= DEAL; kind++) {
            int number = kind == DEAL ? 2 : 0;
            if (Shuffles.lay(move, kind, number, row.size())) {
                trial.copy(row);
                trial.follow(move);
                int inversions = Measures.inversions(trial);
                if (bestKind == NONE || inversions < fewest) {
                    fewest = inversions;
                    bestKind = kind;
                }
            }
        }
        return bestKind;
    }

    public int riffle(int deck) throws IndexOutOfBoundsException {
        Row row = needDeck(deck).row();
        // The longer the first packet, the smaller m: so the first m that fits is the smallest.
        for (int first = row.size(); first >= 0; first--) {
            int number = Measures.placesFrom(row, first);
            if (Shuffles.lay(move, RIFFLE, number, row.size()) && move.isPlacedAs(row)) {
                return number;
            }
        }
        return NONE;
    }

    public long digest() {
        long d = DIGEST_START;
        for (int what = 0; what <= LAST_MANY; what++) {
            d = mixed(d, many(what));
        }
        for (int i = 0; i < deckCount; i++) {
            d = mixedDeck(d, i);
        }
        for (int i = 0; i < sequenceCount; i++) {
            d = mixed(d, ofSequence(i, 0));
            d = mixed(d, period(i, DIGEST_PERIOD_CARDS));
        }
        return d;
    }

    private long mixedDeck(long start, int deck) {
        long d = start;
        for (int what = 0; what <= LAST_OF_DECK; what++) {
            d = mixed(d, ofDeck(deck, what));
        }
        for (int what = 0; what <= LAST_KEEPS; what++) {
            d = mixed(d, keeps(deck, what) ? 1 : 0);
        }
        int size = ofDeck(deck, 0);
        for (int position = 0; position < size; position++) {
            int card = card(deck, position);
            d = mixed(d, card);
            d = mixed(d, find(deck, card, true));
            d = mixed(d, toTop(deck, position));
        }
        d = mixed(d, best(deck));
        d = mixed(d, riffle(deck));
        return mixed(d, alike(deck, 0));
    }

    private static long mixed(long d, int value) {
        return d * 31L + value;
    }

    // ---- what a call needs

    private Deck needDeck(int deck) {
        if (deck < 0 || deck >= deckCount || deck >= decks.length) {
            throw new IndexOutOfBoundsException("no such deck");
        }
        return decks[deck];
    }

    private Sequence needSequence(int sequence) {
        if (sequence < 0 || sequence >= sequenceCount || sequence >= sequences.length) {
            throw new IndexOutOfBoundsException("no such sequence");
        }
        return sequences[sequence];
    }

    private static void needPosition(Row row, int position) {
        if (!row.has(position)) {
            throw new IndexOutOfBoundsException("no such position");
        }
    }

    private static void needOften(int often) {
        if (!isWithin(often, 1, MOST_OFTEN)) {
            throw new IllegalArgumentException("often is not 1 to 1000000");
        }
    }

    private static void needWhat(int what, int last) {
        if (!isWithin(what, 0, last)) {
            throw new IllegalArgumentException("nothing is asked with this number");
        }
    }

    private static boolean isDeckSize(int cards) {
        return isWithin(cards, FEWEST_CARDS, MOST_CARDS);
    }

    private static boolean isWithin(int value, int least, int most) {
        return value >= least && value <= most;
    }

    private int shufflesOfAll() {
        int sum = 0;
        for (int i = 0; i < deckCount; i++) {
            sum += decks[i].shuffleCount();
        }
        return sum;
    }

    private int cardsOfAll() {
        int sum = 0;
        for (int i = 0; i < deckCount; i++) {
            sum += decks[i].row().size();
        }
        return sum;
    }

    private int facesUpOfAll() {
        int sum = 0;
        for (int i = 0; i < deckCount; i++) {
            sum += Measures.facesUp(decks[i].row());
        }
        return sum;
    }

    /**
     * The positions (as bits) to which an OUT or an IN brings those that are given. The q-th card
     * of either half comes to 2 q with one of the two, and to 2 q + 1 with the other one.
     */
    private static int behindOutOrIn(int positions, int half) {
        int reached = 0;
        for (int q = 0; q < half; q++) {
            int ofBothHalves = (1 << q) | (1 << (half + q));
            if ((positions & ofBothHalves) != 0) {
                reached |= 3 << (2 * q);
            }
        }
        return reached;
    }

    /**
     * The numbers 0 to size less 1 in some order from the top on, each turned over or not. A deck
     * is such a row of cards; a shuffle is one too: the row that it makes of a new deck.
     */
    private static final class Row {
        // Twice the number that lies there, plus 1 if it is turned over.
        private final int[] lying = new int[MOST_CARDS];
        private final int[] before = new int[MOST_CARDS];
        private int size;

        void begin(int cards) {
            clear();
            addSpan(0, cards);
        }

        void clear() {
            size = 0;
        }

        void add(int number) {
            addLying(2 * number);
        }

        void addTurned(int number) {
            addLying(2 * number + 1);
        }

        void addSpan(int from, int end) {
            for (int number = from; number < end; number++) {
                addLying(2 * number);
            }
        }

        private void addLying(int code) {
            if (size < lying.length) {
                lying[size] = code;
                size++;
            }
        }

        int size() {
            return size;
        }

        boolean has(int place) {
            return place >= 0 && place < size && place < lying.length;
        }

        int numberAt(int place) {
            return has(place) ? lying[place] >> 1 : 0;
        }

        boolean isTurnedAt(int place) {
            return has(place) && (lying[place] & 1) != 0;
        }

        int placeOf(int number) {
            for (int place = 0; place < size; place++) {
                if (numberAt(place) == number) {
                    return place;
                }
            }
            return NONE;
        }

        boolean isPlacedAs(Row other) {
            for (int place = 0; place < size; place++) {
                if (numberAt(place) != other.numberAt(place)) {
                    return false;
                }
            }
            return size == other.size;
        }

        void turnAt(int place) {
            if (has(place)) {
                lying[place] ^= 1;
            }
        }

        void copy(Row other) {
            size = other.size;
            System.arraycopy(other.lying, 0, lying, 0, MOST_CARDS);
        }

        void save(int[] kept) {
            System.arraycopy(lying, 0, kept, 0, Math.min(kept.length, MOST_CARDS));
        }

        void restore(int[] kept) {
            System.arraycopy(kept, 0, lying, 0, Math.min(kept.length, MOST_CARDS));
        }

        /**
         * Puts this row through a shuffle of its size. That may be this very row: each place is
         * asked before it is written, and what lay there is taken from the row before.
         */
        void follow(Row shuffle) {
            System.arraycopy(lying, 0, before, 0, MOST_CARDS);
            for (int place = 0; place < size; place++) {
                int from = shuffle.numberAt(place);
                int side = shuffle.isTurnedAt(place) ? 1 : 0;
                if (has(place) && has(from)) {
                    lying[place] = before[from] ^ side;
                }
            }
        }

        /** The same often, by doubling; what is left of the shuffle is one of its powers. */
        void followOften(Row shuffle, int often) {
            for (int left = often; left > 0; left >>= 1) {
                if ((left & 1) != 0) {
                    follow(shuffle);
                }
                shuffle.follow(shuffle);
            }
        }
    }

    /** What each kind of shuffle makes of a new deck. */
    private static final class Shuffles {
        /** Lays the row of a shuffle; false, and nothing laid, if it is none for so many cards. */
        static boolean lay(Row row, int kind, int number, int cards) {
            if (!isOne(kind, number, cards)) {
                return false;
            }
            row.clear();
            switch (kind) {
                case CUT:
                    row.addSpan(number, cards);
                    row.addSpan(0, number);
                    break;
                case OUT:
                    layHalves(row, 0, cards / 2, cards / 2);
                    break;
                case IN:
                    layHalves(row, cards / 2, 0, cards / 2);
                    break;
                case MONGE:
                    layMonge(row, cards);
                    break;
                case MILK:
                    layMilk(row, cards);
                    break;
                case DEAL:
                    layDeal(row, number, cards);
                    break;
                case BACK:
                    layBack(row, number, cards);
                    break;
                case OVER:
                    layOver(row, number, cards);
                    break;
                case RIFFLE:
                    layRiffle(row, number, cards);
                    break;
                default:
                    layPackets(row, number, cards);
                    break;
            }
            return true;
        }

        private static boolean isOne(int kind, int number, int cards) {
            if (!isDeckSize(cards)) {
                return false;
            }
            switch (kind) {
                case CUT:
                    return isWithin(number, 0, cards - 1);
                case OUT:
                case IN:
                    return number == 0 && cards % 2 == 0;
                case MONGE:
                case MILK:
                    return number == 0;
                case DEAL:
                    return isWithin(number, 2, 4);
                case BACK:
                case OVER:
                    return isWithin(number, 0, cards);
                case RIFFLE:
                    return isWithin(number, 0, (1 << cards) - 1);
                case PACKETS:
                    return isWithin(number, 0, (1 << (cards - 1)) - 1);
                default:
                    return false;
            }
        }

        private static void layHalves(Row row, int one, int other, int half) {
            for (int i = 0; i < half; i++) {
                row.add(one + i);
                row.add(other + i);
            }
        }

        /** The second, fourth .. card came on top, the later the higher; the others beneath. */
        private static void layMonge(Row row, int cards) {
            for (int i = cards - 1; i >= 0; i--) {
                if (i % 2 == 1) {
                    row.add(i);
                }
            }
            for (int i = 0; i < cards; i += 2) {
                row.add(i);
            }
        }

        private static void layMilk(Row row, int cards) {
            int pairs = cards / 2;
            if (cards % 2 == 1) {
                row.add(pairs);
            }
            for (int i = pairs - 1; i >= 0; i--) {
                row.add(i);
                row.add(cards - 1 - i);
            }
        }

        private static void layDeal(Row row, int piles, int cards) {
            for (int pile = 0; pile < piles; pile++) {
                for (int i = cards - 1; i >= 0; i--) {
                    if (i % piles == pile) {
                        row.add(i);
                    }
                }
            }
        }

        private static void layBack(Row row, int number, int cards) {
            for (int i = number - 1; i >= 0; i--) {
                row.add(i);
            }
            row.addSpan(number, cards);
        }

        private static void layOver(Row row, int number, int cards) {
            for (int i = number - 1; i >= 0; i--) {
                row.addTurned(i);
            }
            row.addSpan(number, cards);
        }

        private static void layRiffle(Row row, int number, int cards) {
            int first = 0;
            int second = cards - Integer.bitCount(number);
            for (int i = 0; i < cards; i++) {
                if (((number >> i) & 1) == 0) {
                    row.add(first);
                    first++;
                } else {
                    row.add(second);
                    second++;
                }
            }
        }

        private static void layPackets(Row row, int number, int cards) {
            int end = cards;
            for (int i = cards - 2; i >= 0; i--) {
                if (((number >> i) & 1) == 1) {
                    row.addSpan(i + 1, end);
                    end = i + 1;
                }
            }
            row.addSpan(0, end);
        }
    }

    /** Steps that were told: kinds and numbers, in no range until a deck is there. */
    private static final class Sequence {
        private final int[] kinds = new int[MOST_STEPS];
        private final int[] numbers = new int[MOST_STEPS];
        private int length;

        int length() {
            return length;
        }

        void add(int kind, int number) {
            if (length < MOST_STEPS) {
                kinds[length] = kind;
                numbers[length] = number;
                length++;
            }
        }

        int kindAt(int index) {
            return has(index) ? kinds[index] : NONE;
        }

        int numberAt(int index) {
            return has(index) ? numbers[index] : NONE;
        }

        private boolean has(int index) {
            return index >= 0 && index < length && index < MOST_STEPS;
        }

        /** Lays what all steps make of a new deck; false, if one is no shuffle for so many cards. */
        boolean lay(Row row, Row single, int cards) {
            row.begin(cards);
            for (int i = 0; i < length; i++) {
                if (!Shuffles.lay(single, kindAt(i), numberAt(i), cards)) {
                    return false;
                }
                row.follow(single);
            }
            return true;
        }
    }

    /** A deck with the rows that it had ahead of its latest shuffles. */
    private static final class Deck {
        private final Row row = new Row();
        private final int[][] kept = new int[MOST_KEPT][MOST_CARDS];
        private int keptCount;
        private int shuffleCount;

        void begin(int cards) {
            row.begin(cards);
        }

        Row row() {
            return row;
        }

        int shuffleCount() {
            return shuffleCount;
        }

        /** Puts the deck through a shuffle, which counts once; the shuffle's row is used up. */
        void put(Row shuffle, int often) {
            row.save(kept[keptPlace()]);
            keptCount = Math.min(keptCount + 1, MOST_KEPT);
            shuffleCount++;
            row.followOften(shuffle, often);
        }

        boolean takeBack() {
            if (keptCount <= 0) {
                return false;
            }
            keptCount--;
            shuffleCount--;
            row.restore(kept[keptPlace()]);
            return true;
        }

        /** Going round: the 41st row comes where the first one was, which so falls away. */
        private int keptPlace() {
            return Math.floorMod(shuffleCount, MOST_KEPT);
        }
    }

    /** The cycles of a row: from a place to that whose number lies there. */
    private static final class Cycles {
        static int count(Row row) {
            int count = 0;
            for (int place = 0; place < row.size(); place++) {
                if (leastOf(row, place) == place) {
                    count++;
                }
            }
            return count;
        }

        static int fixed(Row row) {
            int count = 0;
            for (int place = 0; place < row.size(); place++) {
                if (row.numberAt(place) == place) {
                    count++;
                }
            }
            return count;
        }

        static int longest(Row row) {
            int longest = 0;
            for (int place = 0; place < row.size(); place++) {
                longest = Math.max(longest, lengthOf(row, place));
            }
            return longest;
        }

        static int placementPeriod(Row row) {
            int period = 1;
            for (int place = 0; place < row.size(); place++) {
                period = leastMultiple(period, lengthOf(row, place));
            }
            return period;
        }

        /** Faces too: a cycle that turns a card over once round is back after two rounds only. */
        static int fullPeriod(Row row) {
            int period = 1;
            for (int place = 0; place < row.size(); place++) {
                int rounds = turnsOver(row, place) ? 2 : 1;
                period = leastMultiple(period, rounds * lengthOf(row, place));
            }
            return period;
        }

        private static int leastOf(Row row, int start) {
            int least = start;
            int place = start;
            for (int i = 0; i < row.size(); i++) {
                place = row.numberAt(place);
                least = Math.min(least, place);
            }
            return least;
        }

        private static int lengthOf(Row row, int start) {
            int place = row.numberAt(start);
            int length = 1;
            while (place != start && length < row.size()) {
                place = row.numberAt(place);
                length++;
            }
            return length;
        }

        private static boolean turnsOver(Row row, int start) {
            boolean over = false;
            int place = start;
            int length = lengthOf(row, start);
            for (int i = 0; i < length; i++) {
                over = over != row.isTurnedAt(place);
                place = row.numberAt(place);
            }
            return over;
        }

        private static int leastMultiple(int one, int other) {
            for (int times = 1; times < other; times++) {
                if ((one * times) % other == 0) {
                    return one * times;
                }
            }
            return one * other;
        }
    }

    /** What a row is like otherwise. */
    private static final class Measures {
        static int inversions(Row row) {
            int count = 0;
            for (int upper = 0; upper < row.size(); upper++) {
                for (int lower = upper + 1; lower < row.size(); lower++) {
                    if (row.numberAt(upper) > row.numberAt(lower)) {
                        count++;
                    }
                }
            }
            return count;
        }

        static int risingRuns(Row row) {
            int runs = 1;
            for (int number = 1; number < row.size(); number++) {
                if (row.placeOf(number) < row.placeOf(number - 1)) {
                    runs++;
                }
            }
            return runs;
        }

        static int rifflesNeeded(int runs) {
            int riffles = 0;
            while (riffles < MOST_CARDS && (1 << riffles) < runs) {
                riffles++;
            }
            return riffles;
        }

        static int facesUp(Row row) {
            int count = 0;
            for (int place = 0; place < row.size(); place++) {
                if (row.isTurnedAt(place)) {
                    count++;
                }
            }
            return count;
        }

        /**
         * Of the rises so far, the lowest end of each length is kept as a bit. A number lengthens
         * the longest rise whose end is below it, and so lowers the next greater end, if any.
         */
        static int longestRise(Row row) {
            int ends = 0;
            for (int place = 0; place < row.size(); place++) {
                int number = row.numberAt(place);
                int above = (ends >> number) << number;
                int nextAbove = above & -above;
                ends = (ends ^ nextAbove) | (1 << number);
            }
            return Integer.bitCount(ends);
        }

        /** Whether each whole group of so many places, from the top on, has all remainders. */
        static boolean keepsGroups(Row row, int group) {
            for (int start = 0; start + group <= row.size(); start += group) {
                int remainders = 0;
                for (int i = 0; i < group; i++) {
                    remainders |= 1 << (row.numberAt(start + i) % group);
                }
                if (remainders != (1 << group) - 1) {
                    return false;
                }
            }
            return true;
        }

        static boolean isWhole(Row row) {
            int least = row.numberAt(0);
            int greatest = least;
            for (int place = 1; place < row.size(); place++) {
                least = Math.min(least, row.numberAt(place));
                greatest = Math.max(greatest, row.numberAt(place));
                if (greatest - least != place) {
                    return false;
                }
            }
            return true;
        }

        static boolean isMirrored(Row row) {
            int last = row.size() - 1;
            for (int place = 0; place <= last; place++) {
                if (row.numberAt(place) + row.numberAt(last - place) != last) {
                    return false;
                }
            }
            return true;
        }

        /** The places, as bits, where numbers from this one on lie. */
        static int placesFrom(Row row, int least) {
            int places = 0;
            for (int place = 0; place < row.size(); place++) {
                if (row.numberAt(place) >= least) {
                    places |= 1 << place;
                }
            }
            return places;
        }
    }
}
