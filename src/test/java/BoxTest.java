import java.util.ArrayList;
import java.util.List;
import java.util.Set;
import java.util.TreeSet;

/** Every shape in every part of every division, one in another, against the model's painter. */
public final class BoxTest {
    // The tinctures of the words below: or around the shield, vert its field, gules and sable on it.
    private static final int[] USED = {0, 2, 4, 5};
    private static final List<String> SIZES =
            List.of("12x12", "12x24", "12x6", "24x12", "24x24", "24x6", "6x12", "6x24", "6x6");

    private BoxTest() {
    }

    public static void main(String[] args) {
        Due.sentence("Terms", "A shield is painted in a BOX of w by h cells");
        Due.due("the sizes of the boxes", new ArrayList<>(sizes()), SIZES);
        for (String frame : frames()) {
            for (String shield : shields()) {
                askPicture(frame.replace("*", shield));
            }
        }
        Due.end();
    }

    /** Texts with a star where a shield can be, which has its own box there. */
    private static List<String> frames() {
        List<String> frames = new ArrayList<>(List.of("*"));
        for (String outer : framesIn("*")) {
            frames.add(outer);
            frames.addAll(framesIn(outer));
        }
        return frames;
    }

    private static List<String> framesIn(String frame) {
        List<String> frames = new ArrayList<>();
        for (String division : Tree.DIVISIONS) {
            frames.add(frame.replace("*", division + "(*)and or"));
            frames.add(frame.replace("*", division + " or and(*)"));
        }
        return frames;
    }

    private static Set<String> sizes() {
        Set<String> sizes = new TreeSet<>();
        for (String frame : frames()) {
            int w = 24;
            int h = 24;
            for (String word : Patterns.words(frame)) {
                boolean isBoth = word.equals("quarterly");
                w = isBoth || word.equals("pale") ? w / 2 : w;
                h = isBoth || word.equals("fess") ? h / 2 : h;
            }
            sizes.add(w + "x" + h);
        }
        return sizes;
    }

    private static List<String> shields() {
        List<String> shields = new ArrayList<>();
        List<String> items = new ArrayList<>();
        for (String ordinary : Tree.ORDINARIES) {
            items.add(" a " + ordinary);
        }
        items.addAll(charges());
        for (String item : items) {
            shields.add("vert" + item + " gules");
        }
        for (String division : Tree.DIVISIONS) {
            shields.add(division + " vert and gules");
            for (String item : items) {
                shields.add(division + " vert and gules" + item + " counterchanged");
            }
        }
        for (String ordinary : List.of("chief", "fess", "pale")) {
            for (String charges : charges()) {
                shields.add("vert a " + ordinary + " gules charged with" + charges + " sable");
            }
        }
        return shields;
    }

    private static List<String> charges() {
        List<String> charges = new ArrayList<>();
        for (String number : Tree.NUMBERS) {
            for (String charge : Tree.CHARGES) {
                charges.add(" " + number + " " + charge + (number.equals("a") ? "" : "s"));
            }
        }
        return charges;
    }

    private static void askPicture(String text) {
        Due.due("'" + text + "' is a shield", Patterns.tree(Patterns.words(text)) != null, true);
        Twins twins = new Twins("'" + text + "'");
        twins.type(text);
        twins.ask("read", 0);
        for (int y = 0; y < 24; y++) {
            for (int tincture : USED) {
                twins.ask("row", 0, y, tincture);
            }
        }
    }
}
