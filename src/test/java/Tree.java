import java.util.ArrayList;
import java.util.List;
import java.util.Random;

/** Shields as trees, made by chance from a given seed, and the words that tell them. */
final class Tree {
    static final List<String> TINCTURES =
            List.of("or", "argent", "gules", "azure", "vert", "sable", "purpure", "ermine", "vair");
    static final List<String> ORDINARIES =
            List.of("chief", "fess", "pale", "bend", "cross", "saltire", "chevron", "bordure");
    static final List<String> CHARGES = List.of("roundel", "billet", "lozenge");
    static final List<String> NUMBERS = List.of("a", "two", "three", "four", "five", "six");
    static final List<String> DIVISIONS = List.of("per pale", "per fess", "per bend", "quarterly");
    static final String COUNTERCHANGED = "counterchanged";
    /** Every word that a shield can have. */
    static final List<String> VOCABULARY = vocabulary();

    private Tree() {
    }

    private static List<String> vocabulary() {
        List<String> words = new ArrayList<>(TINCTURES);
        words.addAll(ORDINARIES);
        words.addAll(NUMBERS);
        for (String charge : CHARGES) {
            words.add(charge);
            words.add(charge + "s");
        }
        words.addAll(List.of("per", "quarterly", "and", "(", ")", "charged", "with", COUNTERCHANGED));
        return List.copyOf(words);
    }

    static final class Shield {
        String division;
        // One tincture or shield, or two if the field is divided.
        final List<Object> parts = new ArrayList<>();
        final List<Item> items = new ArrayList<>();

        boolean isOfTwoTinctures() {
            return division != null && parts.get(0) instanceof String && parts.get(1) instanceof String;
        }
    }

    static final class Item {
        // null if the item is charges.
        String ordinary;
        String charge;
        int number;
        String coat;
        Item charged;
    }

    static <T> T pick(Random chance, List<T> from) {
        return from.get(chance.nextInt(from.size()));
    }

    static Shield shield(Random chance, int depth, int innerPercent) {
        Shield shield = new Shield();
        if (chance.nextInt(100) < 70) {
            shield.division = pick(chance, DIVISIONS);
        }
        for (int i = 0; i < (shield.division == null ? 1 : 2); i++) {
            boolean isInner = shield.division != null && depth < 3 && chance.nextInt(100) < innerPercent;
            shield.parts.add(isInner ? shield(chance, depth + 1, innerPercent) : pick(chance, TINCTURES));
        }
        int items = chance.nextInt(depth == 1 ? 5 : 3);
        for (int i = 0; i < items; i++) {
            shield.items.add(item(chance, shield.isOfTwoTinctures()));
        }
        return shield;
    }

    private static Item item(Random chance, boolean mayBeCounterchanged) {
        if (chance.nextBoolean()) {
            return charges(chance, mayBeCounterchanged);
        }
        Item item = new Item();
        item.ordinary = pick(chance, ORDINARIES);
        item.coat = coat(chance, mayBeCounterchanged);
        if (List.of("chief", "fess", "pale").contains(item.ordinary) && chance.nextBoolean()) {
            item.charged = charges(chance, false);
        }
        return item;
    }

    private static Item charges(Random chance, boolean mayBeCounterchanged) {
        Item item = new Item();
        item.charge = pick(chance, CHARGES);
        item.number = 1 + chance.nextInt(6);
        item.coat = coat(chance, mayBeCounterchanged);
        return item;
    }

    private static String coat(Random chance, boolean mayBeCounterchanged) {
        return mayBeCounterchanged && chance.nextBoolean() ? COUNTERCHANGED : pick(chance, TINCTURES);
    }

    static List<String> words(Shield shield) {
        List<String> words = new ArrayList<>();
        tellShield(shield, words);
        return words;
    }

    private static void tellShield(Shield shield, List<String> words) {
        if (shield.division != null) {
            words.addAll(List.of(shield.division.split(" ")));
        }
        for (int i = 0; i < shield.parts.size(); i++) {
            if (i > 0) {
                words.add("and");
            }
            if (shield.parts.get(i) instanceof Shield inner) {
                words.add("(");
                tellShield(inner, words);
                words.add(")");
            } else {
                words.add((String) shield.parts.get(i));
            }
        }
        for (Item item : shield.items) {
            tellItem(item, words);
        }
    }

    private static void tellItem(Item item, List<String> words) {
        if (item.ordinary != null) {
            words.addAll(List.of("a", item.ordinary, item.coat));
        } else {
            words.addAll(List.of(NUMBERS.get(item.number - 1), item.charge + (item.number > 1 ? "s" : ""), item.coat));
        }
        if (item.charged != null) {
            words.addAll(List.of("charged", "with"));
            tellItem(item.charged, words);
        }
    }

    /** The words with spaces where they must be, and by chance some more. */
    static String text(Random chance, List<String> words) {
        StringBuilder text = new StringBuilder();
        String last = " ";
        for (String word : words) {
            boolean mustPart = isLetters(last) && isLetters(word);
            if (mustPart || chance.nextInt(4) == 0) {
                text.append(chance.nextInt(8) == 0 ? "  " : " ");
            }
            text.append(word);
            last = word;
        }
        return text.toString();
    }

    private static boolean isLetters(String word) {
        return word.matches("[a-z]+");
    }
}
