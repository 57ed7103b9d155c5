import java.util.ArrayList;
import java.util.List;
import java.util.Random;

/** Random texts, most of them wrong: what read answers, against the grammar and the patterns. */
public final class FaultTest {
    private static final int TEXTS = 40000;
    private static final List<String> JUNK =
            List.of("blue", "an", "A", "1", ",", "orr", "o", "roundelss", "one", "seven", "[", "~", "-", "ors");

    private FaultTest() {
    }

    public static void main(String[] args) {
        Random chance = new Random(4);
        int right = 0;
        for (int i = 0; i < TEXTS; ) {
            List<String> words = changedWords(chance, i % 2 == 0 ? 15 : 60);
            String text = Tree.text(chance, words);
            if (text.length() > 120) {
                continue;
            }
            i++;
            int want = Grammar.answer(words);
            right += want > 0 ? 1 : 0;
            Due.due("'" + text + "' is a shield by patterns", Patterns.tree(Patterns.words(text)) != null, want > 0);
            Due.dueRead(text, want);
        }
        Due.due("many texts were right, and many wrong", right > TEXTS / 8 && right < TEXTS * 7 / 8, true);
        Due.end();
    }

    /** The words of a random shield with up to three changes. */
    static List<String> changedWords(Random chance, int innerPercent) {
        List<String> words = new ArrayList<>(Tree.words(Tree.shield(chance, 1, innerPercent)));
        int changes = chance.nextInt(4);
        for (int c = 0; c < changes; c++) {
            change(chance, words);
        }
        return words;
    }

    private static void change(Random chance, List<String> words) {
        String word = Tree.pick(chance, chance.nextInt(10) == 0 ? JUNK : Tree.VOCABULARY);
        int at = words.isEmpty() ? 0 : chance.nextInt(words.size());
        int kind = words.isEmpty() ? 0 : chance.nextInt(4);
        if (kind == 0) {
            words.add(chance.nextBoolean() ? words.size() : at, word);
        } else if (kind == 1) {
            words.remove(at);
        } else if (kind == 2) {
            words.set(at, word);
        } else {
            words.subList(at, words.size()).clear();
        }
    }
}
