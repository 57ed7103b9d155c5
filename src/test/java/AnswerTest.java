import java.util.List;

/** A new object, and the answers of promises 5 to 8 and 11 to 16 with their edges. */
public final class AnswerTest {
    private static final int[] NO_TINCTURES = {-1, 9, 10, Integer.MIN_VALUE, Integer.MAX_VALUE};

    private AnswerTest() {
    }

    public static void main(String[] args) {
        none();
        newText();
        newPage();
        objectsApart();
        cornersOfCell();
        tinctureOfCell();
        rowAsSum();
        rowOfNoTincture();
        cellsOfAll();
        cellsOfNoTincture();
        differ();
        differOfOne();
        countShields();
        countItems();
        countCharges();
        countDepth();
        countOfLastReading();
        sameWords();
        sameNotPicture();
        sameOfLastReading();
        tellAnswers();
        tellSpaces();
        tellInsteadOfWhatWasThere();
        turnedTinctures();
        turnedAsTold();
        turnedLeavesShield();
        longestPage();
        length();
        charAtOfPage();
        charAtOfNone();
        Due.end();
    }

    private static void due(String call, Object got, Object want) {
        Due.due(call, got, want);
    }

    private static void none() {
        Due.sentence("The public face", "NONE = -1");
        due("NONE", ToldShields.NONE, -1);
    }

    private static void newText() {
        Due.sentence("Promise 1", "No text");
        due("wipe of no text", new ToldShields().wipe(), 0);
        due("read of no text", new ToldShields().read(0), -1);
        ToldShields shields = new ToldShields();
        for (int i = 0; i < 120; i++) {
            due("type of character " + i, shields.type(' '), true);
        }
    }

    private static void newPage() {
        Due.sentence("Promise 1", "the page is empty");
        ToldShields shields = new ToldShields();
        due("length", shields.length(), 0);
        for (int p : new int[] {0, 1, -1, 120, Integer.MIN_VALUE, Integer.MAX_VALUE}) {
            due("charAt(" + p + ")", shields.charAt(p), ' ');
        }
    }

    private static void objectsApart() {
        Due.sentence("Promise 1", "No text; no shields; the page is empty");
        ToldShields one = Due.told("or");
        one.tell(0);
        Due.type(one, "gules");
        ToldShields other = new ToldShields();
        Due.dueThrow("cells of a new object", Due.STATE, () -> other.cells(0, 0));
        due("length of a new object", other.length(), 0);
        due("wipe of a new object", other.wipe(), 0);
        due("the first one's text", one.wipe(), 5);
        due("the first one's shield", one.cells(0, 0), 576);
        due("the first one's page", Due.page(one), "or");
    }

    private static void cornersOfCell() {
        Due.sentence("Promise 5", "The tincture of a cell");
        ToldShields shields =
                Due.told("per fess (per pale or and argent) and (per pale gules and azure)");
        due("the upper left", shields.cell(0, 0, 0), 0);
        due("the upper right", shields.cell(0, 23, 0), 1);
        due("the lower left", shields.cell(0, 0, 23), 2);
        due("the lower right", shields.cell(0, 23, 23), 3);
        due("left of the middle", shields.cell(0, 11, 11), 0);
        due("right of the middle", shields.cell(0, 12, 11), 1);
        due("below the middle", shields.cell(0, 11, 12), 2);
        due("below and right of the middle", shields.cell(0, 12, 12), 3);
    }

    private static void tinctureOfCell() {
        Due.sentence("Promise 5", "The tincture of a cell");
        for (int s = 0; s < 3; s++) {
            ToldShields shields = new ToldShields();
            Due.read(shields, s, "vair a chief ermine a billet sable");
            due("the chief", shields.cell(s, 0, 7), 7);
            due("the field", shields.cell(s, 0, 8), 8);
            due("the billet", shields.cell(s, 6, 3), 5);
            due("beside the billet", shields.cell(s, 5, 3), 7);
        }
    }

    private static void rowAsSum() {
        Due.sentence("Promise 6", "The cells of row y that have a tincture, as the sum of 2^x");
        ToldShields shields = Due.told("per bend or and gules a chief vair");
        due("a whole row", shields.row(0, 0, 8), Due.ALL);
        due("the last row of the chief", shields.row(0, 7, 8), Due.ALL);
        due("below the chief", shields.row(0, 8, 8), 0);
        due("or in row 8", shields.row(0, 8, 0), Due.bits(8, 23));
        due("gules in row 8", shields.row(0, 8, 2), Due.bits(0, 7));
        due("the rightmost cell alone", shields.row(0, 23, 0), 1 << 23);
        due("all but that one", shields.row(0, 23, 2), Due.bits(0, 22));
        due("a tincture that is not there", shields.row(0, 23, 1), 0);
        due("the leftmost cell alone", Due.told("per bend or and gules").row(0, 1, 2), 1);
    }

    private static void rowOfNoTincture() {
        Due.sentence("Promise 7", "(0 for a number that is none; so for row)");
        ToldShields shields = Due.told("per pale or and gules a fess counterchanged");
        for (int tincture : NO_TINCTURES) {
            due("row 0 of tincture " + tincture, shields.row(0, 0, tincture), 0);
            due("row 8 of tincture " + tincture, shields.row(0, 8, tincture), 0);
            due("row 23 of tincture " + tincture, shields.row(0, 23, tincture), 0);
        }
    }

    private static void cellsOfAll() {
        Due.sentence("Promise 7", "How many cells have a tincture");
        ToldShields shields = Due.told("purpure a bordure ermine");
        due("the bordure", shields.cells(0, 7), 320);
        due("the field", shields.cells(0, 6), 256);
        due("a tincture that is not there", shields.cells(0, 0), 0);
        due("all cells", Due.told("or").cells(0, 0), 576);
        due("a bend", Due.told("azure a bend or").cells(0, 0), 196);
    }

    private static void cellsOfNoTincture() {
        Due.sentence("Promise 7", "0 for a number that is none");
        ToldShields shields = Due.told("per pale or and vair a fess counterchanged");
        for (int tincture : NO_TINCTURES) {
            due("cells of tincture " + tincture, shields.cells(0, tincture), 0);
        }
    }

    private static void differ() {
        Due.sentence("Promise 8", "In how many cells two shields differ");
        ToldShields shields = Due.told("per pale or and gules");
        Due.read(shields, 1, "per pale gules and or");
        due("everywhere", shields.differ(0, 1), 576);
        Due.read(shields, 2, "or a pale gules");
        due("in places", shields.differ(0, 2), 12 * 24);
        due("the other way round", shields.differ(2, 0), 12 * 24);
        Due.read(shields, 2, "per pale (or) and (gules)");
        due("nowhere, with other words", shields.differ(0, 2), 0);
        Due.read(shields, 2, "per pale or and gules a bend gules");
        due("in the left half of a bend", shields.differ(2, 0), 98);
    }

    private static void differOfOne() {
        Due.sentence("Promise 8", "In how many cells two shields differ");
        ToldShields shields = new ToldShields();
        for (int s = 0; s < 3; s++) {
            Due.read(shields, s, "or a bend gules");
            due("a shield and itself", shields.differ(s, s), 0);
        }
        due("two with the same words", shields.differ(1, 2), 0);
    }

    private static void dueCount(int what, String text, int want) {
        due("count " + what + " of '" + text + "'", Due.told(text).count(0, what), want);
    }

    private static void countShields() {
        Due.sentence("Promise 11", "0: how many shields lie in it, itself too");
        dueCount(0, "or", 1);
        dueCount(0, "quarterly or and vert a bend or", 1);
        dueCount(0, "quarterly (or) and vert", 2);
        dueCount(0, "quarterly (or) and (or)", 3);
        dueCount(0, "per pale or and (per pale or and (or))", 3);
        dueCount(0, "per pale(per pale(or)and(or))and(per pale(or)and(or))", 7);
    }

    private static void countItems() {
        Due.sentence("Promise 11", "1: how many items all of them have");
        dueCount(1, "or", 0);
        dueCount(1, "quarterly (or) and (or)", 0);
        dueCount(1, "or a bend or six billets or", 2);
        dueCount(1, "or a fess gules charged with six billets or", 1);
        dueCount(1, "quarterly (or a bend or) and (or a bend or a bend or) a bend or", 4);
        String four = " a pale or".repeat(4);
        dueCount(1, "per pale(or" + four + ")and or" + four, 8);
    }

    private static void countCharges() {
        Due.sentence("Promise 11", "2: how many charges all of them have, those on ordinaries too");
        dueCount(2, "or a bend or", 0);
        dueCount(2, "or a billet or", 1);
        dueCount(2, "or six roundels or", 6);
        dueCount(2, "or six roundels gules a fess gules charged with two billets or", 8);
        dueCount(2, "per pale (or two billets or) and (or a chief or charged with three lozenges or) a billet or", 6);
        dueCount(2, "or six billets or six billets or six billets or six billets or", 24);
    }

    private static void countDepth() {
        Due.sentence("Promise 11", "3: how deep they lie in one another");
        dueCount(3, "or", 1);
        dueCount(3, "per pale or and or", 1);
        dueCount(3, "per pale or and (or)", 2);
        dueCount(3, "per pale (or) and (or)", 2);
        dueCount(3, "per pale (or) and (per pale or and or)", 2);
        dueCount(3, "per pale (per pale (or) and or) and (or)", 3);
        dueCount(3, "per pale (or) and (per pale or and (or))", 3);
    }

    private static void countOfLastReading() {
        Due.sentence("Promise 11", "Of a shield");
        ToldShields shields = new ToldShields();
        String[] texts = {
            "per pale (per pale (or) and or) and (or two billets or)", "or a bend or", "or six billets or"};
        int[][] counts = {{4, 1, 2, 3}, {1, 1, 0, 1}, {1, 1, 6, 1}};
        for (int i = 0; i < 9; i++) {
            int k = i % 3;
            Due.read(shields, i / 3, texts[k]);
            for (int what = 0; what < 4; what++) {
                due("count " + what + " of '" + texts[k] + "'", shields.count(i / 3, what), counts[k][what]);
            }
        }
        due("a fault", Due.read(shields, 1, texts[0] + " blue"), -19);
        Due.read(shields, 1, "or");
        due("shields after a fault", shields.count(1, 0), 1);
        due("items after a fault", shields.count(1, 1), 0);
        due("charges after a fault", shields.count(1, 2), 0);
        due("depth after a fault", shields.count(1, 3), 1);
    }

    private static void sameWords() {
        Due.sentence("Promise 12", "Whether two shields have the same words");
        ToldShields shields = Due.told("per pale (or)and gules");
        Due.read(shields, 1, "  per pale ( or ) and   gules ");
        due("the same words, other spaces", shields.same(0, 1), true);
        due("a shield and itself", shields.same(0, 0), true);
        Due.read(shields, 1, "per pale (or) and vert");
        due("another last word", shields.same(0, 1), false);
        Due.read(shields, 1, "per fess (or) and gules");
        due("another word before it", shields.same(0, 1), false);
        Due.read(shields, 1, "or a bend gules");
        Due.read(shields, 2, "vert a bend gules");
        due("another first word", shields.same(1, 2), false);
        Due.read(shields, 1, "per pale (or) and gules a bend or");
        due("more words", shields.same(0, 1), false);
        due("fewer words", shields.same(1, 0), false);
    }

    private static void sameNotPicture() {
        Due.sentence("Promise 12", "(not: the same picture)");
        ToldShields shields = Due.told("per pale or and gules");
        Due.read(shields, 1, "per pale (or) and gules");
        due("the same picture, other words", shields.same(0, 1), false);
        Due.read(shields, 0, "or a fess vert");
        Due.read(shields, 1, "or a bend or a fess vert");
        due("the same picture, an item more", shields.same(0, 1), false);
        Due.read(shields, 0, "or a billet or");
        Due.read(shields, 1, "or a roundel or");
        due("the same picture, as many words", shields.same(0, 1), false);
        due("they differ in no cell", shields.differ(0, 1), 0);
    }

    private static void sameOfLastReading() {
        Due.sentence("Promise 12", "Whether two shields have the same words");
        ToldShields shields = Due.told("or a bend gules");
        Due.read(shields, 0, "vert");
        Due.read(shields, 1, "vert");
        due("the same words where there were more before", shields.same(0, 1), true);
        Due.read(shields, 1, "or a bend");
        due("the same words after a fault", shields.same(0, 1), true);
    }

    private static void duePage(String text, String page) {
        ToldShields shields = Due.told(text);
        due("tell of '" + text + "'", shields.tell(0), page.length());
        due("length after it", shields.length(), page.length());
        due("the page", Due.page(shields), page);
    }

    private static void tellAnswers() {
        Due.sentence("Promise 13", "Writes a shield's words on the page .. : how many characters");
        duePage("or", "or");
        duePage("or a bend gules", "or a bend gules");
        for (int s = 0; s < 3; s++) {
            ToldShields shields = new ToldShields();
            Due.read(shields, s, "vert a billet vair");
            due("tell of " + s, shields.tell(s), 18);
        }
        for (String word : List.of("chief", "fess", "pale", "bend", "cross", "saltire", "chevron", "bordure",
                "roundel", "billet", "lozenge")) {
            duePage("ermine a " + word + " purpure", "ermine a " + word + " purpure");
        }
        for (String number : List.of("two", "three", "four", "five", "six")) {
            duePage("or a chief vair charged with " + number + " roundels sable",
                    "or a chief vair charged with " + number + " roundels sable");
        }
    }

    private static void tellSpaces() {
        Due.sentence("Promise 13", "a space between two");
        duePage("   or   a bend    gules  ", "or a bend gules");
        duePage("per pale(or)and(vert)", "per pale ( or ) and ( vert )");
        duePage("per pale(per pale or and(or))and or a fess azure",
                "per pale ( per pale or and ( or ) ) and or a fess azure");
    }

    private static void tellInsteadOfWhatWasThere() {
        Due.sentence("Promise 13", "instead of what was there");
        ToldShields shields = Due.told("or a bend gules");
        Due.read(shields, 1, "vert");
        shields.tell(0);
        due("tell of a shorter one", shields.tell(1), 4);
        due("the page", Due.page(shields), "vert");
        due("behind the page", shields.charAt(4), ' ');
        due("where the longer one was", shields.charAt(5), ' ');
        due("tell of the longer one", shields.tell(0), 15);
        due("tell again", shields.tell(0), 15);
        due("the page", Due.page(shields), "or a bend gules");
    }

    private static void dueTurned(String text, String page) {
        ToldShields shields = Due.told(text);
        due("turned of '" + text + "'", shields.turned(0), page.length());
        due("length after it", shields.length(), page.length());
        due("the page", Due.page(shields), page);
    }

    private static void turnedTinctures() {
        Due.sentence("Promise 14", "with or and argent exchanged, gules and azure, vert and sable");
        String[] from = {"or", "argent", "gules", "azure", "vert", "sable", "purpure", "ermine", "vair"};
        String[] to = {"argent", "or", "azure", "gules", "sable", "vert", "purpure", "ermine", "vair"};
        for (int t = 0; t < from.length; t++) {
            dueTurned(from[t], to[t]);
            dueTurned("vair a bend " + from[t], "vair a bend " + to[t]);
            dueTurned("per pale " + from[t] + " and " + from[t], "per pale " + to[t] + " and " + to[t]);
        }
    }

    private static void turnedAsTold() {
        Due.sentence("Promise 14", "(as they are told; other words stay)");
        dueTurned("argent a chief azure charged with two lozenges sable",
                "or a chief gules charged with two lozenges vert");
        dueTurned("quarterly purpure and ermine a bordure vair a cross counterchanged",
                "quarterly purpure and ermine a bordure vair a cross counterchanged");
        dueTurned("per pale(or)and(vert)a bend gules", "per pale ( argent ) and ( sable ) a bend azure");
        dueTurned("per pale or and gules a bend counterchanged", "per pale argent and azure a bend counterchanged");
    }

    private static void turnedLeavesShield() {
        Due.sentence("Promise 14", "other words stay, the shield, too");
        ToldShields shields = Due.told("or a bend argent");
        due("turned", shields.turned(0), 16);
        due("turned again", shields.turned(0), 16);
        due("the page", Due.page(shields), "argent a bend or");
        due("the picture", shields.cells(0, 1), 196);
        due("the breach", shields.breach(0, 0), 3);
        due("tell", shields.tell(0), 16);
        due("the page", Due.page(shields), "or a bend argent");
    }

    private static void longestPage() {
        Due.sentence("Promise 14", "Likewise");
        String text = "per bend(per bend(or a pale or)and(or a pale or)a pale or)and"
                + "(per bend(or a pale or)and(or a pale or)a pale or)a pale or";
        String page = "per bend ( per bend ( or a pale or ) and ( or a pale or ) a pale or ) and "
                + "( per bend ( or a pale or ) and ( or a pale or ) a pale or ) a pale or";
        duePage(text, page);
        // No text of 120 characters gives a longer page.
        String turned = page.replace("or", "argent");
        due("characters of the longest page", turned.length(), 188);
        dueTurned(text, turned);
    }

    private static void length() {
        Due.sentence("Promise 15", "How many characters the page has");
        ToldShields shields = Due.told("or a bend gules");
        due("before tell", shields.length(), 0);
        shields.tell(0);
        due("after tell", shields.length(), 15);
        shields.turned(0);
        due("after turned", shields.length(), 19);
        Due.read(shields, 0, "or");
        due("reading leaves the page", shields.length(), 19);
        Due.type(shields, "gules");
        due("typing leaves the page", shields.length(), 19);
        shields.wipe();
        due("wiping leaves the page", shields.length(), 19);
        shields.tell(0);
        due("a shorter page", shields.length(), 2);
    }

    private static void charAtOfPage() {
        Due.sentence("Promise 16", "Character p of the page");
        ToldShields shields = Due.told("vert a bend gules");
        shields.tell(0);
        due("the first", shields.charAt(0), 'v');
        due("a space between two", shields.charAt(4), ' ');
        due("the last", shields.charAt(16), 's');
        shields.turned(0);
        due("the first, turned", shields.charAt(0), 's');
        due("the last, turned", shields.charAt(17), 'e');
    }

    private static void charAtOfNone() {
        Due.sentence("Promise 16", "a space when there is none");
        ToldShields shields = Due.told("vert a bend gules");
        shields.tell(0);
        for (int p : new int[] {-1, 17, 18, 120, 1000, Integer.MIN_VALUE, Integer.MAX_VALUE}) {
            due("charAt(" + p + ")", shields.charAt(p), ' ');
        }
        Due.read(shields, 0, "or");
        shields.tell(0);
        for (int p : new int[] {2, 3, 5, 16}) {
            due("charAt(" + p + ") of a shorter page", shields.charAt(p), ' ');
        }
    }
}
