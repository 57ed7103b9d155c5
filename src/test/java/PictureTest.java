import java.util.List;
import java.util.Random;

/** Random shields: all that can be asked of them, against the model. */
public final class PictureTest {
    private static final int SHIELDS = 6000;

    private PictureTest() {
    }

    public static void main(String[] args) {
        Random chance = new Random(20261115);
        int deepest = 0;
        for (int i = 0; i < SHIELDS; ) {
            Tree.Shield tree = Tree.shield(chance, 1, i % 3 == 0 ? 10 : 60);
            List<String> words = Tree.words(tree);
            String text = Tree.text(chance, words);
            if (text.length() > 120) {
                continue;
            }
            i++;
            Due.due("'" + text + "' is read by patterns", Tree.words(Patterns.tree(words)), words);
            askPicture(text);
            askLawAndCounts(text);
            askPage(text, "tell");
            askPage(text, "turned");
            deepest = Math.max(deepest, Judge.depth(tree));
        }
        Due.due("the depth that was reached", deepest, 3);
        Due.end();
    }

    private static void askPicture(String text) {
        Twins twins = new Twins("'" + text + "'");
        twins.type(text);
        twins.ask("read", 1);
        for (int y = 0; y < 24; y++) {
            for (int tincture = 0; tincture < 9; tincture++) {
                twins.ask("row", 1, y, tincture);
            }
            twins.ask("cell", 1, 23 - y, y);
        }
        for (int tincture = 0; tincture < 9; tincture++) {
            twins.ask("cells", 1, tincture);
        }
    }

    private static void askLawAndCounts(String text) {
        Twins twins = new Twins("'" + text + "'");
        twins.type(text);
        twins.ask("read", 2);
        twins.ask("breaches", 2);
        for (int i = 0; i < 20; i++) {
            twins.ask("breach", 2, i);
        }
        for (int what = 0; what < 4; what++) {
            twins.ask("count", 2, what);
        }
    }

    private static void askPage(String text, String call) {
        Twins twins = new Twins("'" + text + "'");
        twins.type(text);
        twins.ask("read", 0);
        twins.ask(call, 0);
        twins.askWholePage();
    }
}
