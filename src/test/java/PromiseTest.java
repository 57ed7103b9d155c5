/** Each promise by itself, with answers worked out by hand from the document. */
public final class PromiseTest {
    private static final Class<?> INDEX = IndexOutOfBoundsException.class;
    private static final Class<?> STATE = IllegalStateException.class;
    private static final Class<?> ARGUMENT = IllegalArgumentException.class;
    private static final int ALL = (1 << 24) - 1;
    private static final int[] NO_SHIELDS = {-1, 3, Integer.MIN_VALUE, Integer.MAX_VALUE};

    private PromiseTest() {
    }

    public static void main(String[] args) {
        newObject();
        type();
        wipe();
        read();
        readWords();
        readFaults();
        readDepth();
        cell();
        row();
        cells();
        ordinaries();
        charges();
        chargedOrdinaries();
        mostLayers();
        divisions();
        counterchanged();
        differ();
        breaches();
        breach();
        count();
        same();
        tell();
        turned();
        length();
        charAt();
        Due.end();
    }

    private static void due(String call, Object got, Object want) {
        Due.due(call, got, want);
    }

    private static int bits(int from, int to) {
        return (1 << (to + 1)) - (1 << from);
    }

    private static void newObject() {
        due("NONE", ToldShields.NONE, -1);
        ToldShields shields = new ToldShields();
        due("length of a new page", shields.length(), 0);
        due("charAt(0) of a new page", shields.charAt(0), ' ');
        due("wipe of no text", shields.wipe(), 0);
        for (int s = 0; s < 3; s++) {
            int shield = s;
            Due.dueThrow("cell", STATE, () -> shields.cell(shield, 0, 0));
            Due.dueThrow("row", STATE, () -> shields.row(shield, 0, 0));
            Due.dueThrow("cells", STATE, () -> shields.cells(shield, 0));
            Due.dueThrow("differ", STATE, () -> shields.differ(shield, shield));
            Due.dueThrow("breaches", STATE, () -> shields.breaches(shield));
            Due.dueThrow("breach", STATE, () -> shields.breach(shield, 0));
            Due.dueThrow("count", STATE, () -> shields.count(shield, 0));
            Due.dueThrow("same", STATE, () -> shields.same(shield, shield));
            Due.dueThrow("tell", STATE, () -> shields.tell(shield));
            Due.dueThrow("turned", STATE, () -> shields.turned(shield));
        }
        ToldShields other = Due.told("or");
        due("an object does not share its shields", other.cells(0, 0), 576);
        Due.dueThrow("cells after another object read", STATE, () -> shields.cells(0, 0));
    }

    private static void type() {
        ToldShields shields = new ToldShields();
        for (char c : new char[] {0, 10, 31, 127, 128, 255, 0x2022, 0xffff}) {
            due("type of code " + (int) c, shields.type(c), false);
        }
        due("nothing was typed", shields.wipe(), 0);
        due("type of code 32", shields.type((char) 32), true);
        due("type of code 126", shields.type((char) 126), true);
        for (int i = 2; i < 120; i++) {
            due("type of character " + i, shields.type('a'), true);
        }
        due("type of character 120", shields.type('a'), false);
        due("type of an odd character behind 120", shields.type((char) 7), false);
        due("wipe of 120", shields.wipe(), 120);
        due("type after wipe", shields.type('a'), true);
    }

    private static void wipe() {
        ToldShields shields = Due.told("or a bend gules");
        shields.tell(0);
        Due.type(shields, "vert ");
        due("wipe", shields.wipe(), 5);
        due("wipe again", shields.wipe(), 0);
        due("the page stays", Due.page(shields), "or a bend gules");
        due("the shield stays", shields.cells(0, 2), 196);
        due("read of the wiped text", shields.read(0), -1);
    }

    private static void read() {
        ToldShields shields = new ToldShields();
        Due.type(shields, "gules");
        for (int s : NO_SHIELDS) {
            Due.dueThrow("read(" + s + ")", INDEX, () -> shields.read(s));
        }
        due("the text stays", shields.read(2), 1);
        due("read empties the text", shields.wipe(), 0);
        due("the tincture", shields.cells(2, 2), 576);
        Due.dueThrow("no other shield was read", STATE, () -> shields.cells(1, 2));
        due("a fault", Due.read(shields, 2, "azure a"), -3);
        due("a fault empties the text", shields.wipe(), 0);
        due("the shield stays with a fault", shields.cells(2, 2), 576);
        due("the words stay with a fault", shields.tell(2), 5);
        due("read anew", Due.read(shields, 2, "azure a bend or"), 4);
        due("the old picture is gone", shields.cells(2, 2), 0);
        due("the old words are gone", shields.tell(2), 15);
        due("read of no words", shields.read(2), -1);
        due("read of spaces", Due.read(shields, 0, "   "), -1);
        Due.dueThrow("a fault reads nothing", STATE, () -> shields.breaches(0));
        due("a full text", Due.read(shields, 0, pad("or a chief gules", 120)), 4);
    }

    private static String pad(String text, int length) {
        StringBuilder padded = new StringBuilder(text);
        while (padded.length() < length) {
            padded.append(' ');
        }
        return padded.toString();
    }

    private static void dueRead(String text, int want) {
        due("read of '" + text + "'", Due.read(new ToldShields(), 0, text), want);
    }

    private static void readWords() {
        dueRead("  or   a  bend    gules  ", 4);
        dueRead("per pale(or)and(gules a cross or)", 12);
        dueRead("per pale( or )and gules", 7);
        dueRead("orgules", -1);
        dueRead("or a bendgules", -3);
        dueRead("Or", -1);
        dueRead("oR", -1);
        dueRead("or1", -2);
        dueRead("or,a bend gules", -2);
        dueRead("or a bend-gules", -4);
        dueRead("(or)", -1);
        for (String tincture : "or argent gules azure vert sable purpure ermine vair".split(" ")) {
            dueRead(tincture, 1);
        }
    }

    private static void readFaults() {
        dueRead("or or", -2);
        dueRead("or a", -3);
        dueRead("or a roundel", -4);
        dueRead("or a roundels gules", -3);
        dueRead("or two roundel gules", -3);
        dueRead("or two bends gules", -3);
        dueRead("or two", -3);
        dueRead("or one roundel gules", -2);
        dueRead("or seven roundels gules", -2);
        dueRead("or a bend gules charged with a billet or", -5);
        dueRead("or a bordure gules charged with a billet or", -5);
        dueRead("or a roundel gules charged with a billet or", -5);
        dueRead("or a pale gules charged", -6);
        dueRead("or a pale gules charged a billet or", -6);
        dueRead("or a pale gules charged with", -7);
        dueRead("or a pale gules charged with a bend or", -8);
        dueRead("or a pale gules charged with or", -7);
        dueRead("or a pale gules charged with a billet or charged with a billet or", -10);
        dueRead("or a pale gules charged with a billet or a bend gules", 12);
        dueRead("per", -2);
        dueRead("per chief or and gules", -2);
        dueRead("quarterly or", -3);
        dueRead("quarterly or gules", -3);
        dueRead("quarterly or and", -4);
        dueRead("quarterly or and gules and vert", -5);
        dueRead("quarterly () and gules", -3);
        dueRead("quarterly (or and gules", -4);
        dueRead("quarterly (or) and gules )", -7);
        dueRead("or a fess or a fess or a fess or a fess or", 13);
        dueRead("or a fess or a fess or a fess or a fess or a fess or", -14);
        dueRead("or a fess or a fess or a fess or a fess or charged with a billet or", 18);
        dueRead("or a fess or a fess or a fess or a fess or charged with a billet or two", -19);
        dueRead("per pale (or a fess or a fess or a fess or a fess or) and or", 19);
        dueRead("per pale (or a fess or a fess or a fess or a fess or a fess or) and or", -17);
    }

    private static void readDepth() {
        dueRead("per pale (per pale (per pale or and or) and or) and or", 17);
        dueRead("per pale (per pale (per pale (or) and or) and or) and or", -9);
        dueRead("per pale or and (per pale or and (per pale or and (", -15);
        dueRead("per pale or and (per pale or and (per pale or and or))", 17);
    }

    private static void cell() {
        ToldShields shields = Due.told("per pale azure and vair a chief or");
        due("the upper left cell", shields.cell(0, 0, 0), 0);
        due("the last row of the chief", shields.cell(0, 23, 7), 0);
        due("the first row below it", shields.cell(0, 11, 8), 3);
        due("the right half", shields.cell(0, 12, 8), 8);
        due("the lower right cell", shields.cell(0, 23, 23), 8);
        for (int s : NO_SHIELDS) {
            Due.dueThrow("cell of shield " + s, INDEX, () -> shields.cell(s, 0, 0));
        }
        for (int place : new int[] {-1, 24, Integer.MIN_VALUE, Integer.MAX_VALUE}) {
            Due.dueThrow("cell of x " + place, INDEX, () -> shields.cell(0, place, 0));
            Due.dueThrow("cell of y " + place, INDEX, () -> shields.cell(0, 0, place));
            Due.dueThrow("cell of x " + place + ", not read", INDEX, () -> shields.cell(1, place, 0));
            Due.dueThrow("cell of y " + place + ", not read", INDEX, () -> shields.cell(1, 0, place));
        }
        Due.dueThrow("cell, not read", STATE, () -> shields.cell(1, 0, 0));
    }

    private static void row() {
        ToldShields shields = Due.told("per pale or and gules");
        due("the left half", shields.row(0, 0, 0), 4095);
        due("the right half", shields.row(0, 23, 2), ALL - 4095);
        due("a tincture that is not there", shields.row(0, 0, 1), 0);
        for (int tincture : new int[] {-1, 9, Integer.MIN_VALUE, Integer.MAX_VALUE}) {
            due("row of tincture " + tincture, shields.row(0, 0, tincture), 0);
            Due.dueThrow("row of no shield", INDEX, () -> shields.row(3, 0, tincture));
        }
        for (int y : new int[] {-1, 24, Integer.MIN_VALUE, Integer.MAX_VALUE}) {
            Due.dueThrow("row " + y, INDEX, () -> shields.row(0, y, 0));
            Due.dueThrow("row " + y + ", not read", INDEX, () -> shields.row(2, y, 0));
        }
        for (int s : NO_SHIELDS) {
            Due.dueThrow("row of shield " + s, INDEX, () -> shields.row(s, 0, 0));
        }
        Due.dueThrow("row, not read", STATE, () -> shields.row(2, 0, 0));
    }

    private static void cells() {
        ToldShields shields = Due.told("purpure a bordure ermine");
        due("the bordure", shields.cells(0, 7), 320);
        due("the field", shields.cells(0, 6), 256);
        for (int tincture : new int[] {-1, 9, Integer.MIN_VALUE, Integer.MAX_VALUE}) {
            due("cells of tincture " + tincture, shields.cells(0, tincture), 0);
        }
        for (int s : NO_SHIELDS) {
            Due.dueThrow("cells of shield " + s, INDEX, () -> shields.cells(s, 0));
        }
        Due.dueThrow("cells, not read", STATE, () -> shields.cells(1, 0));
    }

    private static void dueRows(String text, int tincture, int[] ys, int[] wants) {
        ToldShields shields = Due.told(text);
        for (int i = 0; i < ys.length; i++) {
            due("row " + ys[i] + " of '" + text + "'", shields.row(0, ys[i], tincture), wants[i]);
        }
    }

    private static void ordinaries() {
        dueRows("or a chief gules", 2, new int[] {0, 7, 8}, new int[] {ALL, ALL, 0});
        dueRows("or a fess gules", 2, new int[] {7, 8, 15, 16}, new int[] {0, ALL, ALL, 0});
        dueRows("or a pale gules", 2, new int[] {0, 23}, new int[] {bits(8, 15), bits(8, 15)});
        dueRows("or a bend gules", 2, new int[] {0, 12, 23}, new int[] {bits(0, 4), bits(8, 16), bits(19, 23)});
        dueRows("or a cross gules", 2, new int[] {0, 8, 16}, new int[] {bits(8, 15), ALL, bits(8, 15)});
        dueRows("or a saltire gules", 2, new int[] {0, 11, 23},
                new int[] {bits(0, 4) + bits(19, 23), bits(7, 16), bits(0, 4) + bits(19, 23)});
        dueRows("or a chevron gules", 2, new int[] {6, 7, 17, 23},
                new int[] {0, bits(11, 12), bits(1, 22), bits(0, 6) + bits(17, 23)});
        dueRows("or a bordure gules", 2, new int[] {3, 4, 19, 20},
                new int[] {ALL, bits(0, 3) + bits(20, 23), bits(0, 3) + bits(20, 23), ALL});
    }

    private static void charges() {
        dueRows("or a roundel gules", 2, new int[] {2, 3, 11}, new int[] {0, bits(9, 14), bits(3, 20)});
        dueRows("or a billet gules", 2, new int[] {2, 3, 20, 21}, new int[] {0, bits(6, 17), bits(6, 17), 0});
        dueRows("or a lozenge gules", 2, new int[] {2, 3, 11, 20},
                new int[] {0, bits(11, 12), bits(3, 20), bits(11, 12)});
        int pair = bits(3, 8) + bits(15, 20);
        int one = bits(6, 17);
        dueRows("or two billets gules", 2, new int[] {2, 3, 20, 21}, new int[] {0, pair, pair, 0});
        dueRows("or three billets gules", 2, new int[] {0, 1, 10, 11, 13, 22, 23},
                new int[] {0, pair, pair, 0, one, one, 0});
        dueRows("or four billets gules", 2, new int[] {1, 10, 11, 13, 22}, new int[] {pair, pair, 0, pair, pair});
        dueRows("or five billets gules", 2, new int[] {0, 1, 6, 7, 9, 14, 17, 22},
                new int[] {0, pair, pair, 0, pair, pair, one, one});
        dueRows("or six billets gules", 2, new int[] {1, 9, 17},
                new int[] {bits(2, 5) + bits(10, 13) + bits(18, 21), pair, one});
    }

    private static void chargedOrdinaries() {
        int triple = bits(2, 5) + bits(10, 13) + bits(18, 21);
        dueRows("gules a chief or charged with three billets sable", 5, new int[] {0, 1, 6, 7, 9},
                new int[] {0, triple, triple, 0, 0});
        dueRows("gules a fess or charged with a billet sable", 5, new int[] {1, 8, 9, 14, 15},
                new int[] {0, 0, bits(6, 17), bits(6, 17), 0});
        dueRows("gules a pale or charged with two billets sable", 5, new int[] {0, 1, 10, 11, 12, 13, 22, 23},
                new int[] {0, bits(10, 13), bits(10, 13), 0, 0, bits(10, 13), bits(10, 13), 0});
        dueRows("gules a pale or charged with two billets sable", 0, new int[] {0, 1},
                new int[] {bits(8, 15), bits(8, 9) + bits(14, 15)});
    }

    private static void mostLayers() {
        String charged = " a pale or charged with a billet or";
        dueRows("vair" + charged + charged + charged + " a fess or", 0, new int[] {7, 8}, new int[] {bits(8, 15), ALL});
    }

    private static void divisions() {
        dueRows("per fess or and gules", 2, new int[] {11, 12}, new int[] {0, ALL});
        dueRows("quarterly or and gules", 2, new int[] {11, 12}, new int[] {bits(12, 23), bits(0, 11)});
        dueRows("per bend or and gules", 2, new int[] {0, 1, 23}, new int[] {0, 1, bits(0, 22)});
        dueRows("per pale (or a chief gules) and vert", 2, new int[] {0, 7, 8}, new int[] {4095, 4095, 0});
        dueRows("quarterly (or a chief gules) and vert", 2, new int[] {0, 3, 4, 12, 15, 16},
                new int[] {4095, 4095, 0, bits(12, 23), bits(12, 23), 0});
        String bend = "per bend (per pale or and gules) and (argent a fess sable)";
        dueRows(bend, 0, new int[] {0, 6, 12}, new int[] {4095, bits(6, 11), 0});
        dueRows(bend, 2, new int[] {0, 12, 20}, new int[] {bits(12, 23), bits(12, 23), bits(20, 23)});
        dueRows(bend, 5, new int[] {7, 8, 15, 16}, new int[] {0, bits(0, 7), bits(0, 14), 0});
        dueRows("per pale (or a chief gules) and vert a fess gules", 2, new int[] {7, 8}, new int[] {4095, ALL});
    }

    private static void counterchanged() {
        dueRows("per pale or and gules a fess counterchanged", 2, new int[] {0, 8}, new int[] {bits(12, 23), 4095});
        // The tincture which the field does not have, also where an earlier item lies.
        dueRows("per pale or and gules a fess vert a chief or a pale counterchanged", 2, new int[] {0, 8, 16},
                new int[] {bits(8, 11), bits(8, 11), bits(8, 11) + bits(16, 23)});
        dueRows("per pale or and gules a billet counterchanged a billet counterchanged", 0, new int[] {3},
                new int[] {bits(0, 5) + bits(12, 17)});
        dueRead("or a fess counterchanged", -4);
        dueRead("per pale (or) and gules a fess counterchanged", -10);
        dueRead("per pale or and (gules) a fess counterchanged", -10);
        dueRead("per pale or and (gules a fess counterchanged)", -9);
        dueRead("per pale (per pale or and gules a fess counterchanged) and vert", 14);
        dueRead("per pale (per pale or and gules) and vert a fess counterchanged", -14);
        dueRead("per pale or and gules a fess counterchanged charged with a billet or", 13);
        dueRead("per pale or and gules a fess or charged with a billet counterchanged", -13);
        dueRead("per pale or and gules two billets counterchanged", 8);
        dueRead("per pale or and or a fess counterchanged", 8);
        dueRead("per pale counterchanged and gules", -3);
    }

    private static void differ() {
        ToldShields shields = Due.told("per pale or and gules");
        Due.read(shields, 1, "per pale gules and or");
        due("a shield and itself", shields.differ(0, 0), 0);
        due("two that are everywhere unlike", shields.differ(0, 1), 576);
        Due.read(shields, 2, "or a pale gules");
        due("two that differ in places", shields.differ(0, 2), 12 * 24);
        due("the other way round", shields.differ(2, 0), 12 * 24);
        Due.read(shields, 2, "per pale (or) and (gules)");
        due("other words, the same picture", shields.differ(0, 2), 0);
        ToldShields fresh = Due.told("or");
        dueTwoShields("differ", fresh::differ);
    }

    private interface OfTwo {
        Object ask(int one, int other);
    }

    /** The exceptions of a call with two shields, of which only 0 was read. */
    private static void dueTwoShields(String call, OfTwo call2) {
        for (int s : NO_SHIELDS) {
            Due.dueThrow(call + " of " + s + ", 0", INDEX, () -> call2.ask(s, 0));
            Due.dueThrow(call + " of 0, " + s, INDEX, () -> call2.ask(0, s));
            Due.dueThrow(call + " of 1 not read, " + s, INDEX, () -> call2.ask(1, s));
            Due.dueThrow(call + " of " + s + ", 1 not read", INDEX, () -> call2.ask(s, 1));
        }
        Due.dueThrow(call + " of 0, 1 not read", STATE, () -> call2.ask(0, 1));
        Due.dueThrow(call + " of 1 not read, 0", STATE, () -> call2.ask(1, 0));
    }

    private static void dueBreaches(String text, int... words) {
        ToldShields shields = Due.told(text);
        due("breaches of '" + text + "'", shields.breaches(0), words.length);
        for (int i = 0; i < words.length; i++) {
            due("breach " + i + " of '" + text + "'", shields.breach(0, i), words[i]);
        }
    }

    private static void breaches() {
        dueBreaches("gules");
        dueBreaches("or a fess argent", 3);
        dueBreaches("gules a fess purpure", 3);
        dueBreaches("gules a fess argent");
        dueBreaches("or three billets or", 3);
        dueBreaches("ermine a fess vair");
        dueBreaches("gules a fess ermine");
        dueBreaches("ermine a fess gules");
        dueBreaches("per pale gules and azure a bend vert", 7);
        dueBreaches("per pale or and azure a bend vert");
        dueBreaches("per pale azure and or a bend vert");
        dueBreaches("per pale or and azure a bend argent");
        dueBreaches("per pale gules and ermine a bend vert");
        dueBreaches("quarterly or and argent a bend or a bend vert", 6);
        dueBreaches("per pale gules and azure a bend counterchanged");
        dueBreaches("per pale (gules) and azure a bend vert");
        dueBreaches("per pale (or a fess argent) and gules a bend azure", 6);
        dueBreaches("per pale (or a fess argent) and (vert a billet sable)", 6, 13);
        dueBreaches("or a fess gules charged with a billet azure", 8);
        dueBreaches("or a fess gules charged with a billet argent");
        dueBreaches("or a fess argent charged with a billet argent", 3, 8);
        dueBreaches("or a fess ermine charged with a billet argent");
        dueBreaches("per fess or and argent a pale counterchanged charged with a billet or");
        // What lies on an earlier item still lies on the field.
        dueBreaches("gules a fess or a billet argent a billet vert", 9);
        ToldShields shields = Due.told("or a fess argent");
        Due.read(shields, 0, "or a fess gules");
        due("breaches after another reading", shields.breaches(0), 0);
        due("breach 0 after another reading", shields.breach(0, 0), -1);
        Due.read(shields, 0, "or a fess argent a");
        due("breaches after a fault", shields.breaches(0), 0);
        for (int s : NO_SHIELDS) {
            Due.dueThrow("breaches of " + s, INDEX, () -> shields.breaches(s));
        }
        Due.dueThrow("breaches, not read", STATE, () -> shields.breaches(1));
    }

    private static void breach() {
        ToldShields shields = Due.told("gules a fess azure charged with two lozenges vert");
        due("breach 0", shields.breach(0, 0), 3);
        due("breach 1", shields.breach(0, 1), 8);
        for (int i : new int[] {-1, 2, Integer.MIN_VALUE, Integer.MAX_VALUE}) {
            due("breach " + i, shields.breach(0, i), ToldShields.NONE);
            Due.dueThrow("breach, not read", STATE, () -> shields.breach(1, i));
        }
        for (int s : NO_SHIELDS) {
            Due.dueThrow("breach of " + s, INDEX, () -> shields.breach(s, 0));
        }
    }

    private static void dueCounts(String text, int... counts) {
        ToldShields shields = Due.told(text);
        for (int what = 0; what < 4; what++) {
            due("count " + what + " of '" + text + "'", shields.count(0, what), counts[what]);
        }
    }

    private static void count() {
        dueCounts("or", 1, 0, 0, 1);
        dueCounts("or a bend gules", 1, 1, 0, 1);
        dueCounts("or six roundels gules a fess gules charged with two billets or", 1, 2, 8, 1);
        dueCounts("quarterly (or) and (gules)", 3, 0, 0, 2);
        dueCounts("quarterly (per pale (or) and vert a billet or) and (gules a fess or charged with six lozenges vert)",
                4, 2, 7, 3);
        ToldShields shields = Due.told("or");
        for (int what : new int[] {-1, 4, Integer.MIN_VALUE, Integer.MAX_VALUE}) {
            Due.dueThrow("count " + what, ARGUMENT, () -> shields.count(0, what));
            Due.dueThrow("count " + what + ", not read", ARGUMENT, () -> shields.count(1, what));
            Due.dueThrow("count " + what + " of no shield", INDEX, () -> shields.count(3, what));
        }
        for (int s : NO_SHIELDS) {
            Due.dueThrow("count of " + s, INDEX, () -> shields.count(s, 0));
        }
        Due.dueThrow("count, not read", STATE, () -> shields.count(2, 3));
        Due.read(shields, 0, "per pale (or a bend or) and (or a billet or) two");
        due("counts stay with a fault", shields.count(0, 0), 1);
    }

    private static void same() {
        ToldShields shields = Due.told("per pale (or)and gules");
        Due.read(shields, 1, "  per pale ( or ) and   gules ");
        due("the same words", shields.same(0, 1), true);
        due("a shield and itself", shields.same(0, 0), true);
        Due.read(shields, 1, "per pale or and gules");
        due("the same picture, other words", shields.same(0, 1), false);
        Due.read(shields, 0, "per pale or and vert");
        due("as many words, one other", shields.same(0, 1), false);
        Due.read(shields, 1, "per pale or and vert a bend or");
        due("more words", shields.same(0, 1), false);
        due("fewer words", shields.same(1, 0), false);
        Due.read(shields, 0, "per pale or and vert a bend argent");
        due("another last word", shields.same(0, 1), false);
        ToldShields shorter = Due.told("or a bend gules");
        Due.read(shorter, 0, "vert");
        Due.read(shorter, 1, "vert");
        due("the same words where there were more before", shorter.same(0, 1), true);
        ToldShields fresh = Due.told("or");
        dueTwoShields("same", fresh::same);
    }

    private static void dueTold(String text, String plain, String turned) {
        ToldShields shields = Due.told(text);
        due("tell of '" + text + "'", shields.tell(0), plain.length());
        due("the page", Due.page(shields), plain);
        due("turned of '" + text + "'", shields.turned(0), turned.length());
        due("the turned page", Due.page(shields), turned);
        due("the shield stays: tell", shields.tell(0), plain.length());
        due("the page again", Due.page(shields), plain);
    }

    private static void tell() {
        dueTold("  or   a bend    gules", "or a bend gules", "argent a bend azure");
        dueTold("per pale(or)and(vert)", "per pale ( or ) and ( vert )", "per pale ( argent ) and ( sable )");
        dueOneShieldThrows("tell", (shields, s) -> shields.tell(s));
    }

    private static void turned() {
        dueTold("argent a chief azure charged with two lozenges sable",
                "argent a chief azure charged with two lozenges sable",
                "or a chief gules charged with two lozenges vert");
        dueTold("quarterly purpure and ermine a bordure vair a cross counterchanged",
                "quarterly purpure and ermine a bordure vair a cross counterchanged",
                "quarterly purpure and ermine a bordure vair a cross counterchanged");
        dueTold("quarterly(quarterly(or)and(or)a fess or a fess or)and"
                        + "(quarterly(or)and(or)a fess or a fess or)a fess or",
                "quarterly ( quarterly ( or ) and ( or ) a fess or a fess or ) and "
                        + "( quarterly ( or ) and ( or ) a fess or a fess or ) a fess or",
                "quarterly ( quarterly ( argent ) and ( argent ) a fess argent a fess argent ) and "
                        + "( quarterly ( argent ) and ( argent ) a fess argent a fess argent ) a fess argent");
        ToldShields shields = Due.told("or a bend gules");
        shields.turned(0);
        due("turned leaves the picture", shields.cells(0, 2), 196);
        dueOneShieldThrows("turned", (object, s) -> object.turned(s));
    }

    private interface OfOne {
        int ask(ToldShields shields, int shield);
    }

    /** The exceptions of a call that writes the page, which stays as it was. */
    private static void dueOneShieldThrows(String call, OfOne ofOne) {
        ToldShields shields = Due.told("vair");
        shields.tell(0);
        for (int s : NO_SHIELDS) {
            Due.dueThrow(call + " of " + s, INDEX, () -> ofOne.ask(shields, s));
        }
        Due.dueThrow(call + ", not read", STATE, () -> ofOne.ask(shields, 1));
        due("the page stays", Due.page(shields), "vair");
    }

    private static void length() {
        ToldShields shields = Due.told("or a bend gules");
        due("length before tell", shields.length(), 0);
        shields.tell(0);
        due("length", shields.length(), 15);
        shields.turned(0);
        due("length turned", shields.length(), 19);
        Due.read(shields, 0, "or");
        due("reading leaves the page", shields.length(), 19);
        shields.tell(0);
        due("a shorter page", shields.length(), 2);
    }

    private static void charAt() {
        ToldShields shields = Due.told("vert a bend gules");
        shields.tell(0);
        due("charAt(0)", shields.charAt(0), 'v');
        due("charAt(4)", shields.charAt(4), ' ');
        due("charAt(16)", shields.charAt(16), 's');
        for (int p : new int[] {-1, 17, Integer.MIN_VALUE, Integer.MAX_VALUE}) {
            due("charAt(" + p + ")", shields.charAt(p), ' ');
        }
        Due.read(shields, 0, "or");
        shields.tell(0);
        due("behind a shorter page", shields.charAt(2), ' ');
        due("behind a shorter page", shields.charAt(5), ' ');
    }
}
