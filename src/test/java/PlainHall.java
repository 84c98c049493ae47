import java.util.ArrayDeque;
import java.util.ArrayList;
import java.util.Arrays;
import java.util.Collections;
import java.util.Deque;
import java.util.List;

/**
 * The document once more, done by hand: cards are moved one by one, often is done often, and what
 * is asked for is looked for among all that there is. Slow, and sharing no thought with the class.
 */
final class PlainHall {
    private static final class Laid {
        List<int[]> cards = new ArrayList<>();
        final Deque<List<int[]>> kept = new ArrayDeque<>();
        int shuffles;
    }

    private final List<Laid> decks = new ArrayList<>();
    private final List<List<int[]>> sequences = new ArrayList<>();
    private int undone;

    public int deck(int cards) {
        argument(cards >= 2 && cards <= 16);
        state(decks.size() < 4);
        Laid laid = new Laid();
        laid.cards = fresh(cards);
        decks.add(laid);
        return decks.size() - 1;
    }

    public int shuffle(int deck, int kind, int number, int often) {
        index(deck >= 0 && deck < decks.size());
        Laid laid = decks.get(deck);
        argument(allowed(kind, number, laid.cards.size()) && often >= 1 && often <= 1000000);
        keep(laid);
        for (int i = 0; i < often; i++) {
            laid.cards = shuffled(laid.cards, kind, number);
        }
        return laid.cards.get(0)[0];
    }

    public int undo(int deck) {
        index(deck >= 0 && deck < decks.size());
        Laid laid = decks.get(deck);
        if (laid.kept.isEmpty()) {
            return -1;
        }
        laid.cards = new ArrayList<>(laid.kept.removeLast());
        laid.shuffles--;
        undone++;
        return laid.cards.get(0)[0];
    }

    public boolean turn(int deck, int position) {
        index(deck >= 0 && deck < decks.size() && position >= 0 && position < decks.get(deck).cards.size());
        int[] old = decks.get(deck).cards.get(position);
        decks.get(deck).cards.set(position, new int[] {old[0], 1 - old[1]});
        return old[1] == 0;
    }

    public int sequence() {
        state(sequences.size() < 4);
        sequences.add(new ArrayList<>());
        return sequences.size() - 1;
    }

    public int step(int sequence, int kind, int number) {
        index(sequence >= 0 && sequence < sequences.size());
        argument(kind >= 0 && kind <= 9 && number >= 0);
        state(sequences.get(sequence).size() < 8);
        sequences.get(sequence).add(new int[] {kind, number});
        return sequences.get(sequence).size();
    }

    public int perform(int deck, int sequence, int often) {
        index(deck >= 0 && deck < decks.size() && sequence >= 0 && sequence < sequences.size());
        argument(often >= 1 && often <= 1000000);
        Laid laid = decks.get(deck);
        state(allAllowed(sequences.get(sequence), laid.cards.size()));
        keep(laid);
        for (int i = 0; i < often; i++) {
            laid.cards = stepped(laid.cards, sequences.get(sequence));
        }
        return laid.cards.get(0)[0];
    }

    public int card(int deck, int position) {
        index(deck >= 0 && deck < decks.size() && position >= 0 && position < decks.get(deck).cards.size());
        return decks.get(deck).cards.get(position)[0];
    }

    public int find(int deck, int card, boolean isFace) {
        index(deck >= 0 && deck < decks.size() && card >= 0 && card < decks.get(deck).cards.size());
        int position = where(decks.get(deck).cards, card);
        return isFace ? decks.get(deck).cards.get(position)[1] : position;
    }

    public int ofDeck(int deck, int what) {
        index(deck >= 0 && deck < decks.size());
        argument(what >= 0 && what <= 10);
        List<int[]> cards = decks.get(deck).cards;
        List<List<Integer>> cycles = cycles(cards);
        switch (what) {
            case 0: return cards.size();
            case 1: return cycles.size();
            case 2: return (int) cycles.stream().filter(c -> c.size() == 1).count();
            case 3: return timesUntilNew(cards);
            case 4: return inversions(cards);
            case 5: return runs(cards);
            case 6: return (int) Math.ceil(Math.log(runs(cards)) / Math.log(2) - 1e-9);
            case 7: return cards.stream().mapToInt(c -> c[1]).sum();
            case 8: return decks.get(deck).shuffles;
            case 9: return cycles.stream().mapToInt(List::size).max().getAsInt();
            default: return longestRise(cards);
        }
    }

    public boolean keeps(int deck, int what) {
        index(deck >= 0 && deck < decks.size());
        argument(what >= 0 && what <= 5);
        List<int[]> cards = decks.get(deck).cards;
        int n = cards.size();
        switch (what) {
            case 0: return groups(cards, 2);
            case 1: return groups(cards, 4);
            case 2: return whole(cards);
            case 3: return (n - cycles(cards).size()) % 2 == 0;
            case 4: return same(cards, fresh(n), false);
            default:
                for (int k = 0; k < n; k++) {
                    if (cards.get(k)[0] + cards.get(n - 1 - k)[0] != n - 1) {
                        return false;
                    }
                }
                return true;
        }
    }

    public double chance(int deck, int riffles) {
        index(deck >= 0 && deck < decks.size());
        argument(riffles >= 0 && riffles <= 12);
        int runs = runs(decks.get(deck).cards);
        double power = 1;
        for (int i = 0; i < riffles; i++) {
            power *= 2;
        }
        if (power < runs) {
            return 0.0;
        }
        double chance = 1.0;
        for (int i = 1; i <= decks.get(deck).cards.size(); i++) {
            chance = chance * (power - runs + i) / i / power;
        }
        return chance;
    }

    public double far(int deck) {
        index(deck >= 0 && deck < decks.size());
        List<int[]> cards = decks.get(deck).cards;
        double sum = 0;
        for (int i = 0; i < cards.size(); i++) {
            sum += cards.get(i)[0] < i ? i - cards.get(i)[0] : cards.get(i)[0] - i;
        }
        return sum / cards.size();
    }

    public int alike(int one, int other) {
        index(one >= 0 && one < decks.size() && other >= 0 && other < decks.size());
        int count = 0;
        for (int i = 0; i < 16; i++) {
            if (i < decks.get(one).cards.size() && i < decks.get(other).cards.size()
                    && Arrays.equals(decks.get(one).cards.get(i), decks.get(other).cards.get(i))) {
                count++;
            }
        }
        return count;
    }

    public int ofSequence(int sequence, int what) {
        index(sequence >= 0 && sequence < sequences.size());
        argument(what >= 0 && what <= sequences.get(sequence).size());
        if (what == 0) {
            return sequences.get(sequence).size();
        }
        int[] step = sequences.get(sequence).get(what - 1);
        return 100000 * step[0] + step[1] % 100000;
    }

    public int period(int sequence, int cards) {
        index(sequence >= 0 && sequence < sequences.size());
        argument(cards >= 2 && cards <= 16);
        if (!allAllowed(sequences.get(sequence), cards)) {
            return -1;
        }
        List<int[]> row = stepped(fresh(cards), sequences.get(sequence));
        int times = 1;
        while (!same(row, fresh(cards), true)) {
            row = stepped(row, sequences.get(sequence));
            times++;
        }
        return times;
    }

    public int many(int what) {
        argument(what >= 0 && what <= 5);
        int shuffles = 0;
        int cards = 0;
        int faces = 0;
        for (int i = 0; i < decks.size(); i++) {
            shuffles += decks.get(i).shuffles;
            cards += decks.get(i).cards.size();
            faces += ofDeck(i, 7);
        }
        return new int[] {decks.size(), sequences.size(), shuffles, undone, cards, faces}[what];
    }

    public int toTop(int deck, int position) {
        index(deck >= 0 && deck < decks.size() && position >= 0 && position < decks.get(deck).cards.size());
        int n = decks.get(deck).cards.size();
        if (n % 2 == 1) {
            return -1;
        }
        int[] times = new int[n];
        Arrays.fill(times, -1);
        times[position] = 0;
        Deque<Integer> open = new ArrayDeque<>(List.of(position));
        while (!open.isEmpty()) {
            int at = open.removeFirst();
            for (int kind = 1; kind <= 2; kind++) {
                int next = where(shuffled(fresh(n), kind, 0), at);
                if (times[next] < 0) {
                    times[next] = times[at] + 1;
                    open.addLast(next);
                }
            }
        }
        return times[0];
    }

    public int goes(int deck, int position, int kind, int number) {
        index(deck >= 0 && deck < decks.size() && position >= 0 && position < decks.get(deck).cards.size());
        List<int[]> cards = decks.get(deck).cards;
        argument(allowed(kind, number, cards.size()));
        return where(shuffled(cards, kind, number), cards.get(position)[0]);
    }

    public int best(int deck) {
        index(deck >= 0 && deck < decks.size());
        List<int[]> cards = decks.get(deck).cards;
        int best = -1;
        for (int kind = 5; kind >= 1; kind--) {
            int number = kind == 5 ? 2 : 0;
            if (allowed(kind, number, cards.size()) && (best < 0 || inversions(shuffled(cards, kind, number))
                    <= inversions(shuffled(cards, best, best == 5 ? 2 : 0)))) {
                best = kind;
            }
        }
        return best;
    }

    public int riffle(int deck) {
        index(deck >= 0 && deck < decks.size());
        List<int[]> cards = decks.get(deck).cards;
        int n = cards.size();
        for (int m = 0; m < 1 << n; m++) {
            int first = 0;
            int second = n - Integer.bitCount(m);
            boolean fits = true;
            for (int k = 0; k < n && fits; k++) {
                fits = cards.get(k)[0] == ((m & 1 << k) == 0 ? first++ : second++);
            }
            if (fits) {
                return m;
            }
        }
        return -1;
    }

    public long digest() {
        List<Long> values = new ArrayList<>();
        for (int what = 0; what < 6; what++) {
            values.add((long) many(what));
        }
        for (int deck = 0; deck < decks.size(); deck++) {
            for (int what = 0; what < 11; what++) {
                values.add((long) ofDeck(deck, what));
            }
            for (int what = 0; what < 6; what++) {
                values.add(keeps(deck, what) ? 1L : 0L);
            }
            for (int position = 0; position < decks.get(deck).cards.size(); position++) {
                values.add((long) decks.get(deck).cards.get(position)[0]);
                values.add((long) decks.get(deck).cards.get(position)[1]);
                values.add((long) toTop(deck, position));
            }
            Collections.addAll(values, (long) best(deck), (long) riffle(deck), (long) alike(deck, 0));
        }
        for (int sequence = 0; sequence < sequences.size(); sequence++) {
            Collections.addAll(values, (long) ofSequence(sequence, 0), (long) period(sequence, 8));
        }
        long d = 58304;
        for (long value : values) {
            d = d * 31 + value;
        }
        return d;
    }

    static boolean allowed(int kind, int m, int n) {
        switch (kind) {
            case 0: return m >= 0 && m < n;
            case 1: case 2: return m == 0 && n % 2 == 0;
            case 3: case 4: return m == 0;
            case 5: return m == 2 || m == 3 || m == 4;
            case 6: case 7: return m >= 0 && m <= n;
            case 8: return m >= 0 && m < Math.pow(2, n);
            case 9: return m >= 0 && m < Math.pow(2, n - 1);
            default: return false;
        }
    }

    static List<int[]> shuffled(List<int[]> cards, int kind, int m) {
        int n = cards.size();
        List<int[]> made = new ArrayList<>();
        Deque<int[]> rest = new ArrayDeque<>(cards);
        Deque<int[]> pile = new ArrayDeque<>();
        switch (kind) {
            case 0:
                for (int i = 0; i < m; i++) {
                    rest.addLast(rest.removeFirst());
                }
                return new ArrayList<>(rest);
            case 1: case 2:
                for (int i = 0; i < n / 2; i++) {
                    made.add(cards.get(kind == 1 ? i : i + n / 2));
                    made.add(cards.get(kind == 1 ? i + n / 2 : i));
                }
                return made;
            case 3:
                for (int i = 0; i < n; i++) {
                    if (i % 2 == 1) {
                        pile.addFirst(rest.removeFirst());
                    } else {
                        pile.addLast(rest.removeFirst());
                    }
                }
                return new ArrayList<>(pile);
            case 4:
                while (rest.size() > 1) {
                    int[] top = rest.removeFirst();
                    pile.addFirst(rest.removeLast());
                    pile.addFirst(top);
                }
                if (!rest.isEmpty()) {
                    pile.addFirst(rest.removeFirst());
                }
                return new ArrayList<>(pile);
            case 5:
                List<Deque<int[]>> piles = new ArrayList<>();
                for (int i = 0; i < m; i++) {
                    piles.add(new ArrayDeque<>());
                }
                for (int i = 0; i < n; i++) {
                    piles.get(i % m).addFirst(rest.removeFirst());
                }
                for (Deque<int[]> each : piles) {
                    made.addAll(each);
                }
                return made;
            case 6: case 7:
                for (int i = 0; i < m; i++) {
                    int[] card = rest.removeFirst();
                    made.add(0, new int[] {card[0], kind == 7 ? 1 - card[1] : card[1]});
                }
                made.addAll(rest);
                return made;
            case 8:
                for (int k = 0; k < n; k++) {
                    if ((m & 1 << k) == 0) {
                        pile.addLast(rest.removeFirst());
                    }
                }
                for (int k = 0; k < n; k++) {
                    made.add((m & 1 << k) == 0 ? pile.removeFirst() : rest.removeFirst());
                }
                return made;
            default:
                List<List<int[]>> packets = new ArrayList<>();
                packets.add(new ArrayList<>());
                for (int k = 0; k < n; k++) {
                    packets.get(packets.size() - 1).add(cards.get(k));
                    if ((m & 1 << k) != 0) {
                        packets.add(new ArrayList<>());
                    }
                }
                Collections.reverse(packets);
                for (List<int[]> packet : packets) {
                    made.addAll(packet);
                }
                return made;
        }
    }

    private static List<int[]> fresh(int n) {
        List<int[]> cards = new ArrayList<>();
        for (int i = 0; i < n; i++) {
            cards.add(new int[] {i, 0});
        }
        return cards;
    }

    private static void keep(Laid laid) {
        laid.kept.addLast(laid.cards.stream().map(int[]::clone).toList());
        laid.cards = new ArrayList<>(laid.cards);
        if (laid.kept.size() > 40) {
            laid.kept.removeFirst();
        }
        laid.shuffles++;
    }

    private static boolean allAllowed(List<int[]> steps, int n) {
        return steps.stream().allMatch(step -> allowed(step[0], step[1], n));
    }

    private static List<int[]> stepped(List<int[]> cards, List<int[]> steps) {
        List<int[]> made = new ArrayList<>(cards);
        for (int[] step : steps) {
            made = shuffled(made, step[0], step[1]);
        }
        return made;
    }

    private static int where(List<int[]> cards, int card) {
        for (int i = 0; i < cards.size(); i++) {
            if (cards.get(i)[0] == card) {
                return i;
            }
        }
        throw new AssertionError("card " + card + " is lost");
    }

    private static boolean same(List<int[]> one, List<int[]> other, boolean facesToo) {
        for (int i = 0; i < one.size(); i++) {
            if (one.get(i)[0] != other.get(i)[0] || facesToo && one.get(i)[1] != other.get(i)[1]) {
                return false;
            }
        }
        return true;
    }

    private static List<List<Integer>> cycles(List<int[]> cards) {
        List<List<Integer>> cycles = new ArrayList<>();
        boolean[] seen = new boolean[cards.size()];
        for (int i = 0; i < cards.size(); i++) {
            List<Integer> cycle = new ArrayList<>();
            for (int at = i; !seen[at]; at = cards.get(at)[0]) {
                seen[at] = true;
                cycle.add(at);
            }
            if (!cycle.isEmpty()) {
                cycles.add(cycle);
            }
        }
        return cycles;
    }

    private static int timesUntilNew(List<int[]> cards) {
        List<int[]> row = cards;
        int times = 1;
        while (!same(row, fresh(cards.size()), false)) {
            List<int[]> next = new ArrayList<>();
            for (int[] card : cards) {
                next.add(row.get(card[0]));
            }
            row = next;
            times++;
        }
        return times;
    }

    private static int inversions(List<int[]> cards) {
        int count = 0;
        for (int i = 0; i < cards.size(); i++) {
            for (int j = 0; j < i; j++) {
                count += cards.get(j)[0] > cards.get(i)[0] ? 1 : 0;
            }
        }
        return count;
    }

    /** Goes through the deck again and again, each time taking the next cards that follow. */
    private static int runs(List<int[]> cards) {
        int next = 0;
        int runs = 0;
        while (next < cards.size()) {
            runs++;
            for (int[] card : cards) {
                if (card[0] == next) {
                    next++;
                }
            }
        }
        return runs;
    }

    private static int longestRise(List<int[]> cards) {
        int[] best = new int[cards.size()];
        int longest = 0;
        for (int i = 0; i < cards.size(); i++) {
            best[i] = 1;
            for (int j = 0; j < i; j++) {
                if (cards.get(j)[0] < cards.get(i)[0]) {
                    best[i] = Math.max(best[i], best[j] + 1);
                }
            }
            longest = Math.max(longest, best[i]);
        }
        return longest;
    }

    private static boolean groups(List<int[]> cards, int size) {
        for (int start = 0; start + size <= cards.size(); start += size) {
            long kinds = cards.subList(start, start + size).stream().mapToInt(c -> c[0] % size).distinct().count();
            if (kinds != size) {
                return false;
            }
        }
        return true;
    }

    private static boolean whole(List<int[]> cards) {
        for (int j = 1; j <= cards.size(); j++) {
            int[] numbers = cards.subList(0, j).stream().mapToInt(c -> c[0]).sorted().toArray();
            for (int i = 1; i < j; i++) {
                if (numbers[i] != numbers[i - 1] + 1) {
                    return false;
                }
            }
        }
        return true;
    }

    private static void index(boolean fits) {
        if (!fits) {
            throw new IndexOutOfBoundsException();
        }
    }

    private static void argument(boolean fits) {
        if (!fits) {
            throw new IllegalArgumentException();
        }
    }

    private static void state(boolean fits) {
        if (!fits) {
            throw new IllegalStateException();
        }
    }
}
