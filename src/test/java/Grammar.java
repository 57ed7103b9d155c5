import java.util.ArrayList;
import java.util.LinkedHashSet;
import java.util.List;
import java.util.Set;

/**
 * The grammar of shields, of which all derivations are followed at once. A derivation is the list of
 * the symbols that are still to come; symbols behind '#' are told by rules, all others are words.
 */
final class Grammar {
    private Grammar() {
    }

    /** What read answers to the words: how many they are, or -1 - p with a fault p. */
    static int answer(List<String> words) {
        Set<List<String>> open = new LinkedHashSet<>();
        open.add(List.of("#shield1"));
        for (int p = 0; p < words.size(); p++) {
            open = behind(open, words.get(p));
            if (open.isEmpty()) {
                return -1 - p;
            }
        }
        return canEnd(open) ? words.size() : -1 - words.size();
    }

    private static Set<List<String>> behind(Set<List<String>> open, String word) {
        Set<List<String>> next = new LinkedHashSet<>();
        for (List<String> derivation : unfolded(open)) {
            if (!derivation.isEmpty() && derivation.get(0).equals(word)) {
                next.add(derivation.subList(1, derivation.size()));
            }
        }
        return next;
    }

    private static boolean canEnd(Set<List<String>> open) {
        return unfolded(open).contains(List.of());
    }

    /** The derivations with their first symbol told by rules until it is a word. */
    private static Set<List<String>> unfolded(Set<List<String>> open) {
        Set<List<String>> done = new LinkedHashSet<>();
        List<List<String>> todo = new ArrayList<>(open);
        while (!todo.isEmpty()) {
            List<String> derivation = todo.remove(todo.size() - 1);
            if (derivation.isEmpty() || !derivation.get(0).startsWith("#")) {
                done.add(derivation);
                continue;
            }
            for (String told : rules(derivation.get(0).substring(1))) {
                List<String> longer = new ArrayList<>(told.isEmpty() ? List.of() : List.of(told.split(" ")));
                longer.addAll(derivation.subList(1, derivation.size()));
                todo.add(longer);
            }
        }
        return done;
    }

    /** A last digit tells a depth or how many items are left; a c, that counterchanged may be. */
    private static List<String> rules(String symbol) {
        char last = symbol.charAt(symbol.length() - 1);
        String name = Character.isDigit(last) ? symbol.substring(0, symbol.length() - 1) : symbol;
        switch (name) {
            case "shield":
                return shieldRules(last);
            case "inner":
                return last == '3' ? List.of() : List.of("( #shield" + (char) (last + 1) + " )");
            case "items":
            case "itemsc":
                String c = name.equals("itemsc") ? "c" : "";
                return last == '0' ? List.of("") : List.of("", "#item" + c + " #" + name + (char) (last - 1));
            case "item":
                return itemRules("#tincture");
            case "itemc":
                return itemRules("#coatc");
            case "charges":
                return chargesRules("#tincture");
            case "coatc":
                return List.of("#tincture", "counterchanged");
            case "division":
                return Tree.DIVISIONS;
            case "tincture":
                return Tree.TINCTURES;
            default:
                throw new IllegalArgumentException(symbol);
        }
    }

    private static List<String> shieldRules(char depth) {
        return List.of("#tincture #items4",
                "#division #tincture and #tincture #itemsc4",
                "#division #inner" + depth + " and #tincture #items4",
                "#division #tincture and #inner" + depth + " #items4",
                "#division #inner" + depth + " and #inner" + depth + " #items4");
    }

    private static List<String> itemRules(String coat) {
        List<String> rules = new ArrayList<>(chargesRules(coat));
        for (String ordinary : Tree.ORDINARIES) {
            rules.add("a " + ordinary + " " + coat);
        }
        for (String ordinary : List.of("chief", "fess", "pale")) {
            rules.add("a " + ordinary + " " + coat + " charged with #charges");
        }
        return rules;
    }

    private static List<String> chargesRules(String coat) {
        List<String> rules = new ArrayList<>();
        for (String number : Tree.NUMBERS) {
            for (String charge : Tree.CHARGES) {
                rules.add(number + " " + charge + (number.equals("a") ? " " : "s ") + coat);
            }
        }
        return rules;
    }
}
