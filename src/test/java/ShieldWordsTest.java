import java.util.List;

/** Which words are a shield: fields, parts, items, charges, coats, and how deep shields lie. */
public final class ShieldWordsTest {
    private static final List<String> CHARGEABLE = List.of("chief", "fess", "pale");

    private ShieldWordsTest() {
    }

    public static void main(String[] args) {
        tinctures();
        noOtherField();
        divisions();
        divisionWords();
        parts();
        noOtherPart();
        fourItems();
        fourItemsOfEachShield();
        chargesOnOrdinariesAreNoItems();
        threeDeep();
        deepSideBySide();
        ordinaries();
        chargedOrdinaries();
        chargedWithCharges();
        chargedOnce();
        numbersOfCharges();
        noOtherNumber();
        coats();
        counterchangedOnTwoTinctures();
        counterchangedOnShields();
        counterchangedOfTheShieldItself();
        counterchangedOnOrdinaries();
        Due.end();
    }

    private static void tinctures() {
        Due.sentence("Terms", "TINCTURES are 0 or, 1 argent .. 7 ermine, 8 vair");
        String[] names = {"or", "argent", "gules", "azure", "vert", "sable", "purpure", "ermine", "vair"};
        for (int t = 0; t < names.length; t++) {
            Due.due("cells of " + names[t], Due.told(names[t]).cells(0, t), 576);
        }
    }

    private static void noOtherField() {
        Due.sentence("Terms", "A field is a tincture; or one of the DIVISIONS");
        for (String word : Tree.VOCABULARY) {
            if (!Tree.TINCTURES.contains(word) && !word.equals("per") && !word.equals("quarterly")) {
                Due.dueRead(word, -1);
                Due.dueRead(word + " or", -1);
            }
        }
        Due.dueRead("per", -2);
        Due.dueRead("quarterly", -2);
        Due.dueRead("(or)", -1);
        Due.dueRead("or gules", -2);
        Due.dueRead("or and gules", -2);
    }

    private static void divisions() {
        Due.sentence("Terms", "the DIVISIONS per pale, per fess, per bend, quarterly");
        for (String ordinary : Tree.ORDINARIES) {
            boolean isDivision = List.of("pale", "fess", "bend").contains(ordinary);
            Due.dueRead("per " + ordinary + " or and gules", isDivision ? 5 : -2);
            Due.dueRead(ordinary + " or and gules", -1);
            Due.dueRead("quarterly " + ordinary + " or and gules", -2);
        }
        Due.dueRead("quarterly or and gules", 4);
        Due.dueRead("per quarterly or and gules", -2);
        Due.dueRead("per or and gules", -2);
        Due.dueRead("per per pale or and gules", -2);
    }

    private static void divisionWords() {
        Due.sentence("Terms", "a PART, the word and, a part");
        Due.dueRead("per pale or gules", -4);
        Due.dueRead("per pale and gules", -3);
        Due.dueRead("per pale or and", -5);
        Due.dueRead("per pale or and and gules", -5);
        Due.dueRead("per pale or and gules and vert", -6);
        Due.dueRead("quarterly or and gules vert", -5);
        Due.dueRead("quarterly or and a fess or", -4);
        Due.dueRead("quarterly or a fess or and gules", -3);
    }

    private static void parts() {
        Due.sentence("Terms", "A part is a tincture, or ( a shield )");
        for (String division : Tree.DIVISIONS) {
            int words = division.split(" ").length;
            Due.dueRead(division + " or and vert", words + 3);
            Due.dueRead(division + " (or) and vert", words + 5);
            Due.dueRead(division + " or and (vert)", words + 5);
            Due.dueRead(division + " (or) and (vert)", words + 7);
            Due.dueRead(division + " (or a bend vert) and (per pale or and vert)", words + 14);
        }
    }

    private static void noOtherPart() {
        Due.sentence("Terms", "A part is a tincture, or ( a shield )");
        Due.dueRead("quarterly () and or", -3);
        Due.dueRead("quarterly ((or)) and or", -3);
        Due.dueRead("quarterly (or and gules) and or", -4);
        Due.dueRead("quarterly (or and gules", -4);
        Due.dueRead("quarterly (or", -4);
        Due.dueRead("quarterly or) and gules", -3);
        Due.dueRead("quarterly (or) and gules)", -7);
        Due.dueRead("quarterly (or) and (gules))", -9);
        Due.dueRead("quarterly (or a fess gules and gules", -7);
        Due.dueRead("quarterly counterchanged and gules", -2);
        Due.dueRead("quarterly quarterly or and gules and or", -2);
        Due.dueRead("quarterly [or] and gules", -2);
    }

    private static void fourItems() {
        Due.sentence("Terms", "A SHIELD is a FIELD and then up to four ITEMS");
        for (String item : new String[] {" a bend vert", " two billets vert"}) {
            for (int items = 0; items <= 4; items++) {
                Due.dueRead("or" + item.repeat(items), 1 + 3 * items);
                Due.dueRead("per pale or and or" + item.repeat(items), 5 + 3 * items);
            }
            Due.dueRead("or" + item.repeat(5), -14);
            Due.dueRead("per pale or and or" + item.repeat(5), -18);
            Due.dueRead("or" + item.repeat(4) + " a", -14);
            Due.dueRead("or" + item.repeat(4) + " six", -14);
        }
    }

    private static void fourItemsOfEachShield() {
        Due.sentence("Terms", "A SHIELD is a FIELD and then up to four ITEMS");
        String four = " a pale or".repeat(4);
        Due.dueRead("per pale(or" + four + ")and or" + four, 31);
        Due.dueRead("per pale or and(or" + four + ")" + four, 31);
        Due.dueRead("per pale(or" + four + " a pale or)and or", -17);
        Due.dueRead("per pale(or" + four + ")and or" + four + " a", -32);
        Due.dueRead("per pale(or" + four + ")and(or" + four + ")", 33);
    }

    private static void chargesOnOrdinariesAreNoItems() {
        Due.sentence("Terms", "An item is a, an ORDINARY, a COAT and .. charged with CHARGES");
        String charged = " a pale or charged with a billet or";
        Due.dueRead("or" + charged.repeat(3) + " a pale or", 28);
        Due.dueRead("or a fess or a fess or" + charged.repeat(2), 23);
        Due.dueRead("or a fess or a fess or" + charged.repeat(2) + " a", -24);
        Due.dueRead("or a fess or a fess or a fess or" + charged + " two", -19);
    }

    private static void threeDeep() {
        Due.sentence("Terms", "Shields lie in one another at most 3 deep");
        Due.dueRead("or", 1);
        Due.dueRead("per pale (or) and or", 7);
        Due.dueRead("per pale (per pale (or) and or) and or", 13);
        Due.dueRead("per pale (per pale (per pale or and or) and or) and or", 17);
        Due.dueRead("per pale (per pale (per pale (or) and or) and or) and or", -9);
        Due.dueRead("per pale (per pale (per pale or and (or)) and or) and or", -11);
        Due.dueRead("per pale or and (per pale or and (per pale or and or))", 17);
        Due.dueRead("per pale or and (per pale or and (per pale or and (or)))", -15);
        Due.dueRead("quarterly (quarterly (quarterly (", -6);
    }

    private static void deepSideBySide() {
        Due.sentence("Terms", "Shields lie in one another at most 3 deep");
        Due.dueRead("per pale(per pale(or)and(or))and(per pale(or)and(or))", 25);
        Due.dueRead("per pale(per pale(or)and(or))and(per pale(or)and(per pale or and(", -27);
        Due.dueRead("per pale(or)and(per pale(or)and(per pale or and or))", 21);
    }

    private static void ordinaries() {
        Due.sentence("Terms", "Ordinaries: chief, fess, pale, bend, cross, saltire, chevron, bordure");
        for (String ordinary : Tree.ORDINARIES) {
            Due.dueRead("or a " + ordinary + " vert", 4);
            Due.dueRead("or an " + ordinary + " vert", -2);
            Due.dueRead("or " + ordinary + " vert", -2);
            Due.dueRead("or two " + ordinary + " vert", -3);
            Due.dueRead("or two " + ordinary + "s vert", -3);
            Due.dueRead("or a " + ordinary + " a bend vert", -4);
        }
    }

    private static void chargedOrdinaries() {
        Due.sentence("Terms", "if the ordinary is chief, fess or pale and one wants, charged with CHARGES");
        for (String ordinary : Tree.ORDINARIES) {
            boolean canBe = CHARGEABLE.contains(ordinary);
            Due.dueRead("or a " + ordinary + " vert charged with a billet or", canBe ? 9 : -5);
            Due.dueRead("or a " + ordinary + " vert charged with a billet or a bend or", canBe ? 12 : -5);
            Due.dueRead("or a " + ordinary + " vert a billet or", 7);
            Due.dueRead("or a " + ordinary + " charged with a billet or", -4);
        }
        Due.dueRead("or a billet vert charged with a billet or", -5);
        Due.dueRead("or two billets vert charged with a billet or", -5);
        Due.dueRead("or charged with a billet vert", -2);
    }

    private static void chargedWithCharges() {
        Due.sentence("Terms", "charged with CHARGES");
        Due.dueRead("or a pale vert charged", -6);
        Due.dueRead("or a pale vert charged a billet or", -6);
        Due.dueRead("or a pale vert with a billet or", -5);
        Due.dueRead("or a pale vert charged with", -7);
        Due.dueRead("or a pale vert charged with or", -7);
        Due.dueRead("or a pale vert charged with billets or", -7);
        Due.dueRead("or a pale vert charged with a", -8);
        for (String ordinary : Tree.ORDINARIES) {
            Due.dueRead("or a pale vert charged with a " + ordinary + " or", -8);
        }
        for (String number : Tree.NUMBERS) {
            for (String charge : Tree.CHARGES) {
                String charges = number + " " + charge + (number.equals("a") ? "" : "s");
                Due.dueRead("or a chief vert charged with " + charges + " or", 9);
            }
        }
    }

    private static void chargedOnce() {
        Due.sentence("Terms", "and one wants, charged with CHARGES");
        Due.dueRead("or a pale vert charged with a billet or charged with a billet or", -10);
        Due.dueRead("or a pale vert charged with a billet or two billets or", 12);
        Due.dueRead("or a pale vert a pale vert charged with a billet or", 12);
    }

    private static void numbersOfCharges() {
        Due.sentence("Terms", "a CHARGE .. and a coat behind a, or more of them: two, three, four, five, six");
        for (String number : Tree.NUMBERS) {
            for (String charge : Tree.CHARGES) {
                boolean isOne = number.equals("a");
                Due.dueRead("or " + number + " " + charge + " vert", isOne ? 4 : -3);
                Due.dueRead("or " + number + " " + charge + "s vert", isOne ? -3 : 4);
                Due.dueRead("or " + number + " " + charge + (isOne ? "" : "s"), -4);
            }
        }
    }

    private static void noOtherNumber() {
        Due.sentence("Terms", "two, three, four, five, six and roundels, billets, lozenges");
        for (String number : new String[] {"one", "seven", "no", "an", "the", "and", "with"}) {
            Due.dueRead("or " + number + " roundel vert", -2);
            Due.dueRead("or " + number + " roundels vert", -2);
        }
        Due.dueRead("or roundels vert", -2);
        Due.dueRead("or 2 roundels vert", -2);
        Due.dueRead("or two three roundels vert", -3);
        Due.dueRead("or two roundelss vert", -3);
        Due.dueRead("or two pales vert", -3);
    }

    private static void coats() {
        Due.sentence("Terms", "A coat is a tincture");
        for (String word : Tree.VOCABULARY) {
            boolean isTincture = Tree.TINCTURES.contains(word);
            Due.dueRead("or a bend " + word, isTincture ? 4 : -4);
            Due.dueRead("or two billets " + word, isTincture ? 4 : -4);
            Due.dueRead("or a fess or charged with a billet " + word, isTincture ? 9 : -9);
        }
        Due.dueRead("or a bend (gules)", -4);
        Due.dueRead("or a bend vert or", -5);
    }

    private static void counterchangedOnTwoTinctures() {
        Due.sentence("Terms", "counterchanged; this only where the shield itself .. is divided into two tinctures");
        for (String division : Tree.DIVISIONS) {
            int words = division.split(" ").length + 3;
            String field = division + " or and ermine";
            for (String ordinary : Tree.ORDINARIES) {
                Due.dueRead(field + " a " + ordinary + " counterchanged", words + 3);
            }
            Due.dueRead(field + " a roundel counterchanged", words + 3);
            Due.dueRead(field + " six lozenges counterchanged", words + 3);
            Due.dueRead(field + " a bend vert a bend counterchanged two billets counterchanged", words + 9);
            Due.dueRead(field + " a bend counterchanged counterchanged", -1 - words - 3);
        }
        for (String tincture : Tree.TINCTURES) {
            Due.dueRead(tincture + " a bend counterchanged", -4);
            Due.dueRead(tincture + " two billets counterchanged", -4);
        }
        // The document does not ask that the two tinctures be unlike.
        Due.dueRead("per pale or and or a fess counterchanged", 8);
    }

    private static void counterchangedOnShields() {
        Due.sentence("Terms", "a field that is divided into two tinctures");
        for (String division : Tree.DIVISIONS) {
            int words = division.split(" ").length;
            Due.dueRead(division + " (or) and gules a fess counterchanged", -1 - words - 7);
            Due.dueRead(division + " or and (gules) a fess counterchanged", -1 - words - 7);
            Due.dueRead(division + " (or) and (gules) two billets counterchanged", -1 - words - 9);
        }
    }

    private static void counterchangedOfTheShieldItself() {
        Due.sentence("Terms", "the shield itself (not one around it or in it)");
        Due.dueRead("per pale or and (gules a fess counterchanged)", -9);
        Due.dueRead("per pale (gules a fess counterchanged) and or", -7);
        Due.dueRead("per pale (per pale or and gules a fess counterchanged) and vert", 14);
        Due.dueRead("per pale vert and (per pale or and gules a fess counterchanged)", 14);
        Due.dueRead("per pale (per pale or and gules) and vert a fess counterchanged", -14);
        Due.dueRead("per pale (per pale or and (vert) a fess counterchanged) and vert", -13);
        Due.dueRead("per pale (per pale or and (per pale or and vert a fess counterchanged)) and vert", 20);
    }

    private static void counterchangedOnOrdinaries() {
        Due.sentence("Terms", "in charges that an ordinary is charged with, never");
        for (String ordinary : CHARGEABLE) {
            for (String coat : new String[] {"or", "counterchanged"}) {
                String text = "per pale or and gules a " + ordinary + " " + coat + " charged with";
                Due.dueRead(text + " a billet counterchanged", -13);
                Due.dueRead(text + " two billets counterchanged", -13);
                Due.dueRead(text + " a billet or", 13);
                Due.dueRead(text + " a billet or a billet counterchanged", 16);
            }
        }
    }
}
