import java.util.List;

/** The law of tinctures, and promises 9 and 10: breaches, breach. */
public final class LawTest {
    private static final List<String> METALS = List.of("or", "argent");
    private static final List<String> COLOURS = List.of("gules", "azure", "vert", "sable", "purpure");

    private LawTest() {
    }

    public static void main(String[] args) {
        itemsOnPlainFields();
        itemsOnDividedFields();
        chargesOnOrdinaries();
        everyOrdinaryAndCharge();
        furs();
        counterchanged();
        shieldsAsParts();
        itemsOnItems();
        innerShields();
        itemsAlone();
        orderOfWords();
        manyBreaches();
        noSuchBreach();
        breachesOfLastReading();
        Due.end();
    }

    /** That exactly the words of these numbers are told as breaches. */
    private static void dueBreaches(String text, int... words) {
        ToldShields shields = Due.told(text);
        Due.due("breaches of '" + text + "'", shields.breaches(0), words.length);
        for (int i = 0; i < words.length; i++) {
            Due.due("breach " + i + " of '" + text + "'", shields.breach(0, i), words[i]);
        }
        Due.due("breach behind the last of '" + text + "'", shields.breach(0, words.length), -1);
    }

    private static void dueBreachIf(boolean isBroken, String text, int word) {
        if (isBroken) {
            dueBreaches(text, word);
        } else {
            dueBreaches(text);
        }
    }

    private static boolean areOneClass(String... tinctures) {
        return METALS.containsAll(List.of(tinctures)) || COLOURS.containsAll(List.of(tinctures));
    }

    private static void itemsOnPlainFields() {
        Due.sentence("Terms", "a metal on a metal, or a colour on a colour: .. the tincture of the field");
        for (String field : Tree.TINCTURES) {
            for (String coat : Tree.TINCTURES) {
                boolean isBroken = areOneClass(field, coat);
                dueBreachIf(isBroken, field + " a bend " + coat, 3);
                dueBreachIf(isBroken, field + " a billet " + coat, 3);
                dueBreachIf(isBroken, field + " six roundels " + coat, 3);
            }
        }
    }

    private static void itemsOnDividedFields() {
        Due.sentence("Terms", "or, if this is divided, both parts, each being a tincture of that class");
        for (String first : Tree.TINCTURES) {
            for (String second : Tree.TINCTURES) {
                for (String coat : Tree.TINCTURES) {
                    boolean isBroken = areOneClass(first, second, coat);
                    dueBreachIf(isBroken, "quarterly " + first + " and " + second + " a fess " + coat, 6);
                }
            }
        }
        for (String division : Tree.DIVISIONS) {
            int words = division.split(" ").length;
            dueBreaches(division + " or and argent two billets or", words + 5);
            dueBreaches(division + " or and gules a bend or a bend vert");
        }
    }

    private static void chargesOnOrdinaries() {
        Due.sentence("Terms", "charges of an ordinary lie on the ordinary");
        for (String ordinary : List.of("chief", "fess", "pale")) {
            for (String coat : Tree.TINCTURES) {
                for (String charges : Tree.TINCTURES) {
                    String text = "vair a " + ordinary + " " + coat + " charged with a billet " + charges;
                    dueBreachIf(areOneClass(coat, charges), text, 8);
                }
            }
        }
        dueBreaches("or a fess gules charged with a billet or");
        dueBreaches("or a fess argent charged with a billet gules", 3);
        dueBreaches("or a fess argent charged with six billets argent", 3, 8);
        dueBreaches("per pale or and argent a fess gules charged with a billet or");
    }

    private static void everyOrdinaryAndCharge() {
        Due.sentence("Terms", "THE LAW is broken by an item");
        for (String ordinary : Tree.ORDINARIES) {
            dueBreaches("or a " + ordinary + " argent", 3);
            dueBreaches("or a " + ordinary + " gules");
        }
        for (String charge : Tree.CHARGES) {
            dueBreaches("gules a " + charge + " vert", 3);
            dueBreaches("gules five " + charge + "s vert", 3);
            dueBreaches("or a chief ermine charged with a " + charge + " or a bend or", 11);
        }
    }

    private static void furs() {
        Due.sentence("Terms", "(Furs .. break nothing.)");
        dueBreaches("ermine a fess ermine");
        dueBreaches("ermine a fess vair");
        dueBreaches("gules a fess ermine");
        dueBreaches("vair a fess gules a fess or");
        dueBreaches("per pale ermine and ermine a fess ermine");
        dueBreaches("per pale gules and vair a fess gules");
        dueBreaches("per pale vair and gules a fess gules");
        dueBreaches("or a fess vair charged with a billet or");
        dueBreaches("or a fess gules charged with a billet ermine");
    }

    private static void counterchanged() {
        Due.sentence("Terms", "(.. counterchanged .. break nothing.)");
        dueBreaches("per pale gules and azure a bend counterchanged");
        dueBreaches("per pale or and argent six billets counterchanged");
        dueBreaches("per fess or and argent a pale counterchanged charged with a billet or");
        dueBreaches("per fess gules and vert a pale counterchanged charged with a billet sable");
    }

    private static void shieldsAsParts() {
        Due.sentence("Terms", "(.. and what is itself a shield, break nothing.)");
        dueBreaches("per pale (gules) and azure a bend vert");
        dueBreaches("per pale gules and (azure) a bend vert");
        dueBreaches("per pale (or) and (or) a bend or");
        dueBreaches("per pale (or) and (or) two billets argent");
    }

    private static void itemsOnItems() {
        Due.sentence("Terms", "what it lies on is the tincture of the field");
        dueBreaches("gules a fess or a billet argent a billet vert", 9);
        dueBreaches("or a fess gules a billet gules a fess or", 9);
        dueBreaches("or a fess gules charged with a billet or a billet or", 11);
    }

    private static void innerShields() {
        Due.sentence("Terms", "THE LAW is broken by an item");
        dueBreaches("per pale (or a fess argent) and gules a bend azure", 6);
        dueBreaches("per pale (or a fess argent) and (vert a billet sable)", 6, 13);
        dueBreaches("per pale (per pale (or a fess or) and (vert)) and gules", 9);
        dueBreaches("quarterly or and (or a fess argent)", 7);
        // An inner shield's items lie on its own field.
        dueBreaches("quarterly or and (vert a fess argent) a bend vert");
        dueBreaches("per pale or and (per pale or and argent a bend argent) a bend or", 12);
    }

    private static void itemsAlone() {
        Due.sentence("Terms", "THE LAW is broken by an item");
        dueBreaches("gules");
        dueBreaches("per pale gules and gules");
        dueBreaches("per pale (or) and (or)");
    }

    private static void orderOfWords() {
        Due.sentence("Terms", "BREACHES are told in the order of the words that tell the tinctures");
        dueBreaches("gules a fess azure charged with two lozenges vert a bend gules two billets sable", 3, 8, 11, 14);
        dueBreaches("per pale (or a fess or a bend or) and (vert a billet vert)", 6, 9, 16);
        dueBreaches("per fess gules and vert a chief gules a bend or a chevron gules", 7, 13);
    }

    private static void manyBreaches() {
        Due.sentence("Promise 9", "How many breaches there are");
        dueBreaches("or a bend or a bend or a bend or a bend or", 3, 6, 9, 12);
        String four = " a pale or".repeat(4);
        dueBreaches("per pale(or" + four + ")and(or" + four + ")", 6, 9, 12, 15, 22, 25, 28, 31);
        dueBreaches("or a pale or charged with a billet or a pale or charged with a billet or a pale or a pale or",
                3, 8, 11, 16, 19, 22);
    }

    private static void noSuchBreach() {
        Due.sentence("Promise 10", "NONE if there is none such");
        ToldShields shields = Due.told("gules a fess azure charged with two lozenges vert");
        Due.due("breach 0", shields.breach(0, 0), 3);
        Due.due("breach 1", shields.breach(0, 1), 8);
        for (int i : new int[] {-1, 2, 3, 120, Integer.MIN_VALUE, Integer.MAX_VALUE}) {
            Due.due("breach " + i, shields.breach(0, i), ToldShields.NONE);
        }
        ToldShields lawful = Due.told("gules");
        for (int i : new int[] {-1, 0, 1}) {
            Due.due("breach " + i + " where there are none", lawful.breach(0, i), ToldShields.NONE);
        }
    }

    private static void breachesOfLastReading() {
        Due.sentence("Promise 9", "How many breaches there are");
        ToldShields shields = Due.told("or a fess argent a fess argent");
        Due.read(shields, 0, "or a fess gules a fess argent");
        Due.due("breaches after another reading", shields.breaches(0), 1);
        Due.due("breach 0 after another reading", shields.breach(0, 0), 6);
        Due.due("breach 1 after another reading", shields.breach(0, 1), -1);
        Due.read(shields, 0, "or a fess argent a fess argent a");
        Due.due("breaches after a fault", shields.breaches(0), 1);
        Due.read(shields, 1, "vert");
        Due.due("breaches of another shield", shields.breaches(1), 0);
        Due.due("breaches of the first", shields.breaches(0), 1);
    }
}
