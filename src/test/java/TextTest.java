import java.util.List;

/** The text, its words and its fault, and promises 2, 3 and 4: type, wipe, read. */
public final class TextTest {
    private static final int MOST = 120;

    private TextTest() {
    }

    public static void main(String[] args) {
        codes();
        fullText();
        refusedCharacters();
        wipeAnswers();
        wipeEmpties();
        wipeLeavesTheRest();
        wordsOfLetters();
        otherCharacters();
        spaces();
        wordsCountFromZero();
        longWords();
        firstWrongWord();
        unfinishedShields();
        noWords();
        readAnswers();
        readFullText();
        readEmptiesText();
        readReplaces();
        faultLeavesShield();
        faultLeavesUnread();
        readLeavesTheRest();
        readOfNoShield();
        Due.end();
    }

    private static void due(String call, Object got, Object want) {
        Due.due(call, got, want);
    }

    private static void codes() {
        Due.sentence("Promise 2", "true; false when c is not 32 .. 126");
        ToldShields shields = null;
        for (int code = 0; code <= Character.MAX_VALUE; code++) {
            // Two calls a code, so that no object has more than 512.
            shields = code % 256 == 0 ? new ToldShields() : shields;
            boolean isRight = code >= 32 && code <= 126;
            due("type of code " + code, shields.type((char) code), isRight);
            due("characters after code " + code, shields.wipe(), isRight ? 1 : 0);
        }
    }

    private static void fullText() {
        Due.sentence("Promise 2", "false when .. there are 120");
        ToldShields shields = new ToldShields();
        for (int i = 0; i < MOST; i++) {
            due("type of character " + i, shields.type('a'), true);
        }
        for (char c : new char[] {'a', ' ', '~', (char) 7, (char) 127}) {
            due("type of " + (int) c + " behind 120", shields.type(c), false);
        }
        due("wipe of a full text", shields.wipe(), MOST);
        due("type after wipe", shields.type('a'), true);
    }

    private static void refusedCharacters() {
        Due.sentence("Promise 2", "Appends a character to the text: true; false");
        ToldShields shields = new ToldShields();
        due("type of o", shields.type('o'), true);
        due("type of code 10", shields.type('\n'), false);
        due("type of code 127", shields.type((char) 127), false);
        due("type of r", shields.type('r'), true);
        due("read without what was refused", shields.read(0), 1);
        Due.type(shields, " ".repeat(MOST - 5) + "gules");
        due("type of s behind 120", shields.type('s'), false);
        due("read of the first 120", shields.read(0), 1);
        Due.type(shields, " ".repeat(MOST - 4) + "gule");
        due("type of the last letter behind 120", shields.type('s'), false);
        due("read of a word that is cut", shields.read(0), -1);
    }

    private static void wipeAnswers() {
        Due.sentence("Promise 3", "how many characters it had");
        ToldShields shields = new ToldShields();
        for (int had : new int[] {0, 1, 119, 120}) {
            Due.type(shields, "(".repeat(had));
            due("wipe of " + had, shields.wipe(), had);
            due("wipe again", shields.wipe(), 0);
        }
        Due.type(shields, "   ");
        due("wipe of spaces", shields.wipe(), 3);
    }

    private static void wipeEmpties() {
        Due.sentence("Promise 3", "The text is empty");
        ToldShields shields = new ToldShields();
        Due.type(shields, "gules");
        shields.wipe();
        due("read of a wiped text", shields.read(0), -1);
        Due.type(shields, "a".repeat(MOST));
        shields.wipe();
        Due.type(shields, " ".repeat(MOST - 2) + "or");
        due("a full text in the place of another", shields.read(0), 1);
    }

    private static void wipeLeavesTheRest() {
        Due.sentence("Promise 3", "(shields and page stay)");
        ToldShields shields = Due.told("or a bend gules");
        shields.turned(0);
        Due.type(shields, "vert ");
        due("wipe", shields.wipe(), 5);
        due("the page stays", Due.page(shields), "argent a bend azure");
        due("the picture stays", shields.cells(0, 2), 196);
        due("the words stay", shields.tell(0), 15);
        Due.dueThrow("a shield that was not read", Due.STATE, () -> shields.cells(1, 2));
    }

    private static void wordsOfLetters() {
        Due.sentence("Terms", "Its WORDS are its longest rows of letters a .. z");
        for (char c = 'a'; c <= 'z'; c++) {
            Due.dueRead("or" + c, -1);
            Due.dueRead(c + "or", -1);
        }
        Due.dueRead("orgules", -1);
        Due.dueRead("or a bendgules", -3);
        Due.dueRead("or abend gules", -2);
        Due.dueRead("o r", -1);
        Due.dueRead("or a be nd gules", -3);
        Due.dueRead("azure a billet vair", 4);
    }

    private static void otherCharacters() {
        Due.sentence("Terms", "and each other character but the space by itself");
        for (char c = 33; c <= 126; c++) {
            if (c < 'a' || c > 'z') {
                // Were it no word of its own, the word before it would be the fault.
                Due.dueRead("or" + c, -2);
                Due.dueRead("or a bend gules" + c + "a bend gules", -5);
                Due.dueRead(c + "or", -1);
            }
        }
        Due.dueRead("or a bend-gules", -4);
        Due.dueRead("Or", -1);
        Due.dueRead("oR", -1);
        Due.dueRead("per pale(or)and(gules a cross or)", 12);
        Due.dueRead("per pale((or", -4);
        Due.dueRead("per pale()and or", -4);
        Due.dueRead("per pale or and(per pale or and(or))", 13);
    }

    private static void spaces() {
        Due.sentence("Terms", "each other character but the space");
        Due.dueRead("  or   a  bend    gules  ", 4);
        Due.dueRead(" or", 1);
        Due.dueRead("or ", 1);
        Due.dueRead(" per pale ( or ) and ( gules ) ", 9);
        Due.dueRead("per pale (or ) and( gules)", 9);
    }

    private static void wordsCountFromZero() {
        Due.sentence("Terms", "they count from 0");
        String text = "per pale ( or ) and gules a fess vert charged with two billets or a bend vert";
        String[] words = text.split(" ");
        for (int p = 0; p < words.length; p++) {
            String[] wrong = words.clone();
            wrong[p] = "blue";
            Due.dueRead(String.join(" ", wrong), -1 - p);
        }
    }

    private static void longWords() {
        Due.sentence("Terms", "The TEXT has at most 120 characters");
        Due.dueRead("o".repeat(MOST), -1);
        Due.dueRead("or" + "r".repeat(MOST - 2), -1);
        Due.dueRead("(".repeat(MOST), -1);
        Due.dueRead("or" + "!".repeat(MOST - 2), -2);
        Due.dueRead("or" + " a".repeat(59), -3);
    }

    private static void firstWrongWord() {
        Due.sentence("Terms", "the first word with which the words up to and with it are not the beginning");
        Due.dueRead("blue", -1);
        Due.dueRead("blue or", -1);
        Due.dueRead("or blue blue", -2);
        Due.dueRead("or or a or", -2);
        // The last words are wrong only by what stands before them.
        Due.dueRead("azure a bend counterchanged", -4);
        Due.dueRead("or two roundels gules charged with a billet or", -5);
    }

    /** All beginnings of a text: what read answers to those that are shields, and to those that are none. */
    private static void dueBeginnings(String text, List<Integer> shields) {
        String[] words = text.split(" ");
        for (int n = 1; n <= words.length; n++) {
            String beginning = String.join(" ", List.of(words).subList(0, n));
            Due.dueRead(beginning, shields.contains(n) ? n : -1 - n);
        }
    }

    private static void unfinishedShields() {
        Due.sentence("Terms", "how many words there are if there is none such, but they are none");
        dueBeginnings("or a bend gules two billets vert a roundel vair", List.of(1, 4, 7, 10));
        dueBeginnings("per pale or and gules a fess counterchanged charged with two billets or a bend vert",
                List.of(5, 8, 13, 16));
        dueBeginnings("quarterly ( per bend ( or ) and vert ) and ( gules a cross or )", List.of(17));
        dueBeginnings("quarterly or and ( gules ) a chief or charged with a lozenge or", List.of(6, 9, 14));
    }

    private static void noWords() {
        Due.sentence("Promise 4", "-1 - p with a fault p (0 of no words)");
        due("read of no text", new ToldShields().read(0), -1);
        Due.dueRead(" ", -1);
        Due.dueRead(" ".repeat(MOST), -1);
        ToldShields shields = Due.told("gules");
        due("read of no text over a shield", shields.read(0), -1);
        due("the shield stays", shields.cells(0, 2), 576);
    }

    private static void readAnswers() {
        Due.sentence("Promise 4", "how many words it has");
        Due.dueRead("or", 1);
        Due.dueRead("or a bend gules", 4);
        Due.dueRead("per pale(or)and(gules)", 9);
        Due.dueRead("per pale(per pale(or)and(or)a fess or a fess or)and(per pale(or)and(or)a fess or)", 34);
    }

    private static void readFullText() {
        Due.sentence("Promise 4", "The text .. is read as a shield");
        String longest = "per bend(per bend(or a pale or)and(or a pale or)a pale or)and"
                + "(per bend(or a pale or)and(or a pale or)a pale or)a pale or";
        due("characters of the longest text", longest.length(), MOST);
        Due.dueRead(longest, 46);
        Due.dueRead(" ".repeat(MOST - 15) + "or a bend gules", 4);
        Due.dueRead("or a bend gules" + " ".repeat(MOST - 15), 4);
    }

    private static void readEmptiesText() {
        Due.sentence("Promise 4", "which is empty then (also with a fault)");
        ToldShields shields = new ToldShields();
        due("read", Due.read(shields, 0, "or a bend gules"), 4);
        due("characters after it", shields.wipe(), 0);
        due("a fault", Due.read(shields, 0, "or a bend blue"), -4);
        due("characters after it", shields.wipe(), 0);
        due("a fault at the end", Due.read(shields, 0, "or a"), -3);
        due("read of what is left", shields.read(0), -1);
        due("no words", Due.read(shields, 0, "   "), -1);
        due("characters after it", shields.wipe(), 0);
        due("a full text with a fault", Due.read(shields, 0, "a".repeat(MOST)), -1);
        due("a full text after it", Due.read(shields, 0, " ".repeat(MOST - 2) + "or"), 1);
    }

    private static void readReplaces() {
        Due.sentence("Promise 4", "is read as a shield");
        ToldShields shields =
                Due.told("per pale (or a bend or) and (or a bend or) a fess gules charged with a billet vert");
        due("read anew", Due.read(shields, 0, "vair"), 1);
        due("the picture is another", shields.cells(0, 8), 576);
        due("the words are others", shields.tell(0), 4);
        due("breaches", shields.breaches(0), 0);
        due("breach 0", shields.breach(0, 0), ToldShields.NONE);
        int[] counts = {1, 0, 0, 1};
        for (int what = 0; what < 4; what++) {
            due("count " + what, shields.count(0, what), counts[what]);
        }
    }

    private static void faultLeavesShield() {
        Due.sentence("Promise 4", "the shield staying as it was");
        ToldShields shields = Due.told("or a bend argent");
        for (String text : new String[] {"", "vair a", "vert a fess gules two",
            "per pale (vert a bend gules) and (vert a billet gules) blue", "vert a fess gules a fess gules a"}) {
            due("read of '" + text + "' has a fault", Due.read(shields, 0, text) < 0, true);
            due("cells", shields.cells(0, 0), 380);
            due("breaches", shields.breaches(0), 1);
            due("breach 0", shields.breach(0, 0), 3);
            due("count 0", shields.count(0, 0), 1);
            due("count 1", shields.count(0, 1), 1);
            due("count 3", shields.count(0, 3), 1);
            due("tell", shields.tell(0), 16);
            due("the page", Due.page(shields), "or a bend argent");
        }
    }

    private static void faultLeavesUnread() {
        Due.sentence("Promise 4", "with a fault p .. the shield staying as it was");
        ToldShields shields = new ToldShields();
        for (int s = 0; s < 3; s++) {
            int shield = s;
            due("a fault", Due.read(shields, s, "or a bend gules blue"), -5);
            Due.dueThrow("tell of " + s, Due.STATE, () -> shields.tell(shield));
            Due.dueThrow("cell of " + s, Due.STATE, () -> shields.cell(shield, 0, 0));
        }
    }

    private static void readLeavesTheRest() {
        Due.sentence("Terms", "There are SHIELDS 0 .. 2");
        ToldShields shields = new ToldShields();
        String[] tinctures = {"or", "argent", "gules"};
        for (int s = 0; s < 3; s++) {
            due("read of " + s, Due.read(shields, s, tinctures[s]), 1);
        }
        shields.tell(2);
        due("read anew", Due.read(shields, 1, "vert"), 1);
        due("shield 0", shields.cells(0, 0), 576);
        due("shield 1", shields.cells(1, 4), 576);
        due("shield 2", shields.cells(2, 2), 576);
        due("the page", Due.page(shields), "gules");
    }

    private static void readOfNoShield() {
        Due.sentence("Promise 4", "IndexOutOfBounds (the text stays)");
        ToldShields shields = new ToldShields();
        Due.type(shields, "or a ");
        for (int s : Due.NO_SHIELDS) {
            Due.dueThrow("read(" + s + ")", Due.INDEX, () -> shields.read(s));
        }
        Due.type(shields, "bend gules");
        due("read of the text that stayed", shields.read(2), 4);
        ToldShields empty = new ToldShields();
        for (int s : Due.NO_SHIELDS) {
            Due.dueThrow("read(" + s + ") of no text", Due.INDEX, () -> empty.read(s));
        }
    }
}
