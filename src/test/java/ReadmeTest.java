import java.io.File;
import java.lang.reflect.Method;
import java.lang.reflect.Modifier;
import java.nio.file.Files;

/** README.md as it stands: its example, answer by answer, and what it has to name. */
public final class ReadmeTest extends TestBase {
    public static void main(String[] args) throws Exception {
        String page = Files.readString(new File("README.md").toPath());
        example();
        namesEveryCall(page);
        namesEveryTest(page);
        CHECKS.end("ReadmeTest");
    }

    private static void example() {
        ShuffleHall hall = new ShuffleHall();
        int deck = hall.deck(6);
        CHECKS.same("deck", deck, 0);
        CHECKS.same("new", cards(hall, deck), "0 1 2 3 4 5");
        CHECKS.same("shuffle", hall.shuffle(deck, 1, 0, 1), 0);
        CHECKS.same("behind OUT", cards(hall, deck), "0 3 1 4 2 5");
        CHECKS.same("card", hall.card(deck, 1), 3);
        CHECKS.same("ofDeck", hall.ofDeck(deck, 5), 2);
        CHECKS.same("riffle", hall.riffle(deck), 42);
        CHECKS.same("undo", hall.undo(deck), 0);
        CHECKS.same("behind undo", cards(hall, deck), "0 1 2 3 4 5");
        int sequence = hall.sequence();
        CHECKS.same("sequence", sequence, 0);
        CHECKS.same("first step", hall.step(sequence, 7, 2), 1);
        CHECKS.same("second step", hall.step(sequence, 0, 1), 2);
        CHECKS.same("period", hall.period(sequence, 6), 10);
        CHECKS.same("perform", hall.perform(deck, sequence, 3), 0);
        CHECKS.same("behind perform", cards(hall, deck), "0^ 4 5 1^ 2^ 3^");
    }

    private static void namesEveryCall(String page) {
        for (Method method : ShuffleHall.class.getDeclaredMethods()) {
            if (Modifier.isPublic(method.getModifiers())) {
                CHECKS.same("names " + method.getName(), page.contains("| `" + method.getName() + "("), true);
            }
        }
    }

    private static void namesEveryTest(String page) {
        for (String file : new File("src/test/java").list()) {
            CHECKS.same("names " + file, page.contains("`" + file.replace(".java", "") + "`"), true);
        }
    }
}
