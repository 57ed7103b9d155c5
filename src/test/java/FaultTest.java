import java.util.ArrayList;
import java.util.LinkedHashSet;
import java.util.List;
import java.util.Random;
import java.util.Set;

/**
 * Random texts, most of them wrong: what read answers against a grammar of which all derivations are
 * followed at once. A derivation is the list of the symbols that are still to come; symbols behind
 * '#' are told by rules, all others are words.
 */
public final class FaultTest {
    private static final int TEXTS = 40000;
    private static final List<String> JUNK =
            List.of("blue", "an", "A", "1", ",", "orr", "o", "roundelss", "one", "seven", "[", "~", "-", "ors");

    private FaultTest() {
    }

    public static void main(String[] args) {
        Random chance = new Random(4);
        List<String> vocabulary = vocabulary();
        int right = 0;
        for (int i = 0; i < TEXTS; ) {
            List<String> words = new ArrayList<>(Tree.words(Tree.shield(chance, 1, i % 2 == 0 ? 15 : 60)));
            int changes = chance.nextInt(4);
            for (int c = 0; c < changes; c++) {
                change(chance, words, vocabulary);
            }
            String text = Tree.text(chance, words);
            if (text.length() > 120) {
                continue;
            }
            i++;
            int want = wanted(words);
            right += want > 0 ? 1 : 0;
            Due.due("read of '" + text + "'", Due.read(new ToldShields(), 0, text), want);
        }
        Due.due("many texts were right, and many wrong", right > TEXTS / 8 && right < TEXTS * 7 / 8, true);
        Due.end();
    }

    private static List<String> vocabulary() {
        List<String> words = new ArrayList<>(Tree.TINCTURES);
        words.addAll(Tree.ORDINARIES);
        words.addAll(Tree.NUMBERS);
        for (String charge : Tree.CHARGES) {
            words.add(charge);
            words.add(charge + "s");
        }
        words.addAll(List.of("per", "quarterly", "and", "(", ")", "charged", "with", "counterchanged"));
        return words;
    }

    private static void change(Random chance, List<String> words, List<String> vocabulary) {
        String word = Tree.pick(chance, chance.nextInt(10) == 0 ? JUNK : vocabulary);
        int at = words.isEmpty() ? 0 : chance.nextInt(words.size());
        int kind = words.isEmpty() ? 0 : chance.nextInt(4);
        if (kind == 0) {
            words.add(chance.nextBoolean() ? words.size() : at, word);
        } else if (kind == 1) {
            words.remove(at);
        } else if (kind == 2) {
            words.set(at, word);
        } else {
            words.subList(at, words.size()).clear();
        }
    }

    private static int wanted(List<String> words) {
        Set<List<String>> open = new LinkedHashSet<>();
        open.add(List.of("#shield1"));
        for (int p = 0; p < words.size(); p++) {
            open = behind(open, words.get(p));
            if (open.isEmpty()) {
                return -1 - p;
            }
        }
        return canEnd(open) ? words.size() : -1 - words.size();
    }

    private static Set<List<String>> behind(Set<List<String>> open, String word) {
        Set<List<String>> next = new LinkedHashSet<>();
        for (List<String> derivation : unfolded(open)) {
            if (!derivation.isEmpty() && derivation.get(0).equals(word)) {
                next.add(derivation.subList(1, derivation.size()));
            }
        }
        return next;
    }

    private static boolean canEnd(Set<List<String>> open) {
        return unfolded(open).contains(List.of());
    }

    /** The derivations with their first symbol told by rules until it is a word. */
    private static Set<List<String>> unfolded(Set<List<String>> open) {
        Set<List<String>> done = new LinkedHashSet<>();
        List<List<String>> todo = new ArrayList<>(open);
        while (!todo.isEmpty()) {
            List<String> derivation = todo.remove(todo.size() - 1);
            if (derivation.isEmpty() || !derivation.get(0).startsWith("#")) {
                done.add(derivation);
                continue;
            }
            for (String told : rules(derivation.get(0).substring(1))) {
                List<String> longer = new ArrayList<>(told.isEmpty() ? List.of() : List.of(told.split(" ")));
                longer.addAll(derivation.subList(1, derivation.size()));
                todo.add(longer);
            }
        }
        return done;
    }

    /** A last digit tells a depth or how many items are left; a c, that counterchanged may be. */
    private static List<String> rules(String symbol) {
        char last = symbol.charAt(symbol.length() - 1);
        String name = Character.isDigit(last) ? symbol.substring(0, symbol.length() - 1) : symbol;
        switch (name) {
            case "shield":
                return shieldRules(last);
            case "inner":
                return last == '3' ? List.of() : List.of("( #shield" + (char) (last + 1) + " )");
            case "items":
            case "itemsc":
                String c = name.equals("itemsc") ? "c" : "";
                return last == '0' ? List.of("") : List.of("", "#item" + c + " #" + name + (char) (last - 1));
            case "item":
                return itemRules("#tincture");
            case "itemc":
                return itemRules("#coatc");
            case "charges":
                return chargesRules("#tincture");
            case "coatc":
                return List.of("#tincture", "counterchanged");
            case "division":
                return Tree.DIVISIONS;
            case "tincture":
                return Tree.TINCTURES;
            default:
                throw new IllegalArgumentException(symbol);
        }
    }

    private static List<String> shieldRules(char depth) {
        return List.of("#tincture #items4",
                "#division #tincture and #tincture #itemsc4",
                "#division #inner" + depth + " and #tincture #items4",
                "#division #tincture and #inner" + depth + " #items4",
                "#division #inner" + depth + " and #inner" + depth + " #items4");
    }

    private static List<String> itemRules(String coat) {
        List<String> rules = new ArrayList<>(chargesRules(coat));
        for (String ordinary : Tree.ORDINARIES) {
            rules.add("a " + ordinary + " " + coat);
        }
        for (String ordinary : List.of("chief", "fess", "pale")) {
            rules.add("a " + ordinary + " " + coat + " charged with #charges");
        }
        return rules;
    }

    private static List<String> chargesRules(String coat) {
        List<String> rules = new ArrayList<>();
        for (String number : Tree.NUMBERS) {
            for (String charge : Tree.CHARGES) {
                rules.add(number + " " + charge + (number.equals("a") ? " " : "s ") + coat);
            }
        }
        return rules;
    }
}
