import java.util.ArrayList;
import java.util.List;

/** A second ToldShields, plain and slow, made of the tests' own reader, painter and judge. */
final class Model {
    private static final List<String> EXCHANGED = List.of("or", "argent", "gules", "azure", "vert", "sable");

    private record Told(List<String> words, int[][] picture, List<Integer> breaches, int[] counts) {
    }

    private String text = "";
    private String page = "";
    private final Told[] shields = new Told[3];

    boolean type(char c) {
        if (c < ' ' || c > '~' || text.length() == 120) {
            return false;
        }
        text += c;
        return true;
    }

    int wipe() {
        int had = text.length();
        text = "";
        return had;
    }

    int read(int shield) {
        refuseUnless(isShield(shield));
        List<String> words = Patterns.words(text);
        text = "";
        Tree.Shield tree = Patterns.tree(words);
        if (tree != null) {
            shields[shield] =
                    new Told(words, new Painter().paintWhole(tree), Judge.breaches(tree), Judge.counts(tree));
        }
        return Grammar.answer(words);
    }

    int cell(int shield, int x, int y) {
        refuseUnless(isPlace(x) && isPlace(y));
        return told(shield).picture[y][x];
    }

    int row(int shield, int y, int tincture) {
        refuseUnless(isPlace(y));
        int[] cells = told(shield).picture[y];
        int sum = 0;
        for (int x = 0; x < Painter.SIDE; x++) {
            sum |= cells[x] == tincture ? 1 << x : 0;
        }
        return sum;
    }

    int cells(int shield, int tincture) {
        int found = 0;
        for (int y = 0; y < Painter.SIDE; y++) {
            found += Integer.bitCount(row(shield, y, tincture));
        }
        return found;
    }

    int differ(int one, int other) {
        refuseUnless(isShield(one) && isShield(other));
        int[][] picture = told(one).picture;
        int[][] second = told(other).picture;
        int found = 0;
        for (int i = 0; i < Painter.SIDE * Painter.SIDE; i++) {
            found += picture[i / Painter.SIDE][i % Painter.SIDE] != second[i / Painter.SIDE][i % Painter.SIDE] ? 1 : 0;
        }
        return found;
    }

    int breaches(int shield) {
        return told(shield).breaches.size();
    }

    int breach(int shield, int i) {
        List<Integer> breaches = told(shield).breaches;
        return i >= 0 && i < breaches.size() ? breaches.get(i) : -1;
    }

    int count(int shield, int what) {
        refuseUnless(isShield(shield));
        if (what < 0 || what > 3) {
            throw new IllegalArgumentException();
        }
        return told(shield).counts[what];
    }

    boolean same(int one, int other) {
        refuseUnless(isShield(one) && isShield(other));
        return told(one).words.equals(told(other).words);
    }

    int tell(int shield) {
        page = String.join(" ", told(shield).words);
        return page.length();
    }

    int turned(int shield) {
        List<String> words = new ArrayList<>();
        for (String word : told(shield).words) {
            int i = EXCHANGED.indexOf(word);
            words.add(i < 0 ? word : EXCHANGED.get(i % 2 == 0 ? i + 1 : i - 1));
        }
        page = String.join(" ", words);
        return page.length();
    }

    int length() {
        return page.length();
    }

    char charAt(int p) {
        return p >= 0 && p < page.length() ? page.charAt(p) : ' ';
    }

    private static boolean isShield(int shield) {
        return shield >= 0 && shield <= 2;
    }

    private static boolean isPlace(int place) {
        return place >= 0 && place < Painter.SIDE;
    }

    private static void refuseUnless(boolean isThere) {
        if (!isThere) {
            throw new IndexOutOfBoundsException();
        }
    }

    private Told told(int shield) {
        refuseUnless(isShield(shield));
        if (shields[shield] == null) {
            throw new IllegalStateException();
        }
        return shields[shield];
    }
}
