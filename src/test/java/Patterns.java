import java.util.ArrayList;
import java.util.List;
import java.util.regex.Matcher;
import java.util.regex.Pattern;

/** Reads words as a tree by patterns, from the innermost shields outwards. */
final class Patterns {
    private static final Pattern WORD = Pattern.compile("[a-z]+|[^a-z ]");

    private static final String TINCTURE = oneOf(Tree.TINCTURES);
    private static final String COAT = "(?:" + TINCTURE + "|" + Tree.COUNTERCHANGED + ")";
    private static final String ONE = oneOf(Tree.CHARGES);
    private static final String CHARGES = "(?:a " + ONE + "|(?:two|three|four|five|six) " + ONE + "s)";
    private static final String ORDINARY = "(?:a (?:bend|cross|saltire|chevron|bordure) " + COAT
            + "|a (?:chief|fess|pale) " + COAT + "(?: charged with " + CHARGES + " " + TINCTURE + ")?)";
    private static final String ITEM = "(?:" + ORDINARY + "|" + CHARGES + " " + COAT + ")";
    // An inner shield that was read stands as # and its number; two words are never that close.
    private static final String PART = "(?:" + TINCTURE + "|#[0-9]+)";

    private static final Pattern ITEM_PARTS = Pattern.compile(" " + ITEM);
    private static final Pattern SHIELD = Pattern.compile("(?:(" + TINCTURE + ")|(" + oneOf(Tree.DIVISIONS) + ") ("
            + PART + ") and (" + PART + "))((?: " + ITEM + "){0,4})");
    private static final Pattern INNERMOST = Pattern.compile("\\( ([^()]*) \\)");

    private final List<Tree.Shield> inner = new ArrayList<>();

    private Patterns() {
    }

    private static String oneOf(List<String> words) {
        return "(?:" + String.join("|", words) + ")";
    }

    static List<String> words(String text) {
        List<String> words = new ArrayList<>();
        Matcher matcher = WORD.matcher(text);
        while (matcher.find()) {
            words.add(matcher.group());
        }
        return words;
    }

    /** The shield that the words tell; null if they tell none. */
    static Tree.Shield tree(List<String> words) {
        Tree.Shield tree = new Patterns().whole(String.join(" ", words));
        return tree == null || Judge.depth(tree) > 3 ? null : tree;
    }

    private Tree.Shield whole(String text) {
        String rest = text;
        Matcher matcher = INNERMOST.matcher(rest);
        while (matcher.find()) {
            Tree.Shield shield = flat(matcher.group(1));
            if (shield == null) {
                return null;
            }
            rest = rest.substring(0, matcher.start()) + "#" + inner.size() + rest.substring(matcher.end());
            inner.add(shield);
            matcher = INNERMOST.matcher(rest);
        }
        return flat(rest);
    }

    private Tree.Shield flat(String text) {
        Matcher matcher = SHIELD.matcher(text);
        if (!matcher.matches()) {
            return null;
        }
        Tree.Shield shield = new Tree.Shield();
        shield.division = matcher.group(2);
        if (shield.division == null) {
            shield.parts.add(matcher.group(1));
        } else {
            shield.parts.add(part(matcher.group(3)));
            shield.parts.add(part(matcher.group(4)));
        }
        Matcher items = ITEM_PARTS.matcher(matcher.group(5));
        while (items.find()) {
            shield.items.add(item(items.group().substring(1).split(" ")));
        }
        return mayBeSo(shield) ? shield : null;
    }

    private static boolean mayBeSo(Tree.Shield shield) {
        for (Tree.Item item : shield.items) {
            if (item.coat.equals(Tree.COUNTERCHANGED) && !shield.isOfTwoTinctures()) {
                return false;
            }
        }
        return true;
    }

    private Object part(String told) {
        return told.startsWith("#") ? inner.get(Integer.parseInt(told.substring(1))) : told;
    }

    private static Tree.Item item(String[] words) {
        Tree.Item item = new Tree.Item();
        item.coat = words[2];
        if (Tree.ORDINARIES.contains(words[1])) {
            item.ordinary = words[1];
        } else {
            item.number = 1 + Tree.NUMBERS.indexOf(words[0]);
            item.charge = item.number == 1 ? words[1] : words[1].substring(0, words[1].length() - 1);
        }
        if (words.length > 3) {
            item.charged = item(new String[] {words[5], words[6], words[7]});
        }
        return item;
    }
}
