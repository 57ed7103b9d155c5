/**
 * Shields told in words are read, painted cell by cell, judged by the law of tinctures, told again
 * in plain words, and compared.
 */
public final class ToldShields {
    public static final int NONE = -1;

    private static final int TEXT_LIMIT = 120;
    // The words of a text have at most 120 characters, at most 119 spaces go between them, and at
    // most 60 of them grow by four letters when or is turned to argent.
    private static final int PAGE_LIMIT = 480;
    private static final int SHIELD_COUNT = 3;
    private static final int SIDE = 24;
    private static final int DEPTH_LIMIT = 3;
    private static final int ITEM_LIMIT = 4;
    // An ordinary and the charges on it are painted as two layers.
    private static final int LAYER_LIMIT = 2 * ITEM_LIMIT;

    private static final int FIRST_COLOUR = 2;
    private static final int FIRST_FUR = 7;
    private static final int TURNED_TINCTURES = 6;
    // No tincture's number, so that no law is broken by it and none is broken on it.
    private static final int COUNTERCHANGED = 9;

    private static final int OTHER = 0;
    private static final int TINCTURE = 1;
    private static final int ORDINARY = 2;
    private static final int NUMBER = 3;
    private static final int CHARGE = 4;
    private static final int CHARGES = 5;

    private static final Word[] WORDS = Word.values();

    private final char[] text = new char[TEXT_LIMIT];
    private int textLength;
    private final char[] page = new char[PAGE_LIMIT];
    private int pageLength;
    private final Told[] shields = new Told[SHIELD_COUNT];
    // Texts are read into this one, which changes places with a shield only when there is no fault.
    private Told spare = new Told();

    public ToldShields() {
        for (int i = 0; i < SHIELD_COUNT; i++) {
            shields[i] = new Told();
        }
    }

    public boolean type(char c) {
        if (c < 32 || c > 126 || textLength >= TEXT_LIMIT) {
            return false;
        }
        text[textLength] = c;
        textLength++;
        return true;
    }

    public int wipe() {
        int had = textLength;
        textLength = 0;
        return had;
    }

    public int read(int shield) throws IndexOutOfBoundsException {
        refuseNoShield(shield);
        spare.splitText(text, textLength);
        textLength = 0;
        Reader reader = new Reader(spare);
        Shield whole = reader.readWhole();
        if (whole == null) {
            return -1 - reader.at;
        }
        spare.paint(whole);
        spare.isRead = true;
        Told last = shields[shield];
        shields[shield] = spare;
        spare = last;
        return shields[shield].wordCount;
    }

    public int cell(int shield, int x, int y) throws IndexOutOfBoundsException, IllegalStateException {
        refuseNoPlace(x);
        refuseNoPlace(y);
        return toldOf(shield).picture[y * SIDE + x];
    }

    public int row(int shield, int y, int tincture) throws IndexOutOfBoundsException, IllegalStateException {
        refuseNoPlace(y);
        int[] picture = toldOf(shield).picture;
        int sum = 0;
        for (int x = 0; x < SIDE; x++) {
            if (picture[y * SIDE + x] == tincture) {
                sum += 1 << x;
            }
        }
        return sum;
    }

    public int cells(int shield, int tincture) throws IndexOutOfBoundsException, IllegalStateException {
        int[] picture = toldOf(shield).picture;
        int found = 0;
        for (int i = 0; i < picture.length; i++) {
            if (picture[i] == tincture) {
                found++;
            }
        }
        return found;
    }

    public int differ(int one, int other) throws IndexOutOfBoundsException, IllegalStateException {
        // That there is no such shield wins over one that was not read, so both are looked at first.
        refuseNoShield(one);
        refuseNoShield(other);
        int[] onePicture = toldOf(one).picture;
        int[] otherPicture = toldOf(other).picture;
        int found = 0;
        for (int i = 0; i < SIDE * SIDE; i++) {
            if (onePicture[i] != otherPicture[i]) {
                found++;
            }
        }
        return found;
    }

    public int breaches(int shield) throws IndexOutOfBoundsException, IllegalStateException {
        return toldOf(shield).breachCount;
    }

    public int breach(int shield, int i) throws IndexOutOfBoundsException, IllegalStateException {
        Told told = toldOf(shield);
        return i >= 0 && i < told.breachCount ? told.breachWords[i] : NONE;
    }

    public int count(int shield, int what)
            throws IndexOutOfBoundsException, IllegalArgumentException, IllegalStateException {
        refuseNoShield(shield);
        if (what < 0 || what > 3) {
            throw new IllegalArgumentException("there is nothing such to count");
        }
        Told told = toldOf(shield);
        switch (what) {
            case 0:
                return told.shieldCount;
            case 1:
                return told.itemCount;
            case 2:
                return told.chargeCount;
            default:
                return told.depth;
        }
    }

    public boolean same(int one, int other) throws IndexOutOfBoundsException, IllegalStateException {
        refuseNoShield(one);
        refuseNoShield(other);
        return toldOf(one).hasWordsOf(toldOf(other));
    }

    public int tell(int shield) throws IndexOutOfBoundsException, IllegalStateException {
        writePage(toldOf(shield), false);
        return pageLength;
    }

    public int turned(int shield) throws IndexOutOfBoundsException, IllegalStateException {
        writePage(toldOf(shield), true);
        return pageLength;
    }

    public int length() {
        return pageLength;
    }

    public char charAt(int p) {
        return p >= 0 && p < pageLength ? page[p] : ' ';
    }

    private void refuseNoShield(int shield) {
        if (shield < 0 || shield >= SHIELD_COUNT) {
            throw new IndexOutOfBoundsException("there is no such shield");
        }
    }

    private void refuseNoPlace(int place) {
        if (place < 0 || place >= SIDE) {
            throw new IndexOutOfBoundsException("there is no such cell");
        }
    }

    private Told toldOf(int shield) {
        refuseNoShield(shield);
        Told told = shields[shield];
        if (!told.isRead) {
            throw new IllegalStateException("the shield was not read");
        }
        return told;
    }

    private void writePage(Told told, boolean isTurned) {
        pageLength = 0;
        for (int i = 0; i < told.wordCount; i++) {
            if (i > 0) {
                writeChar(' ');
            }
            Word word = told.words[i];
            writeWord(isTurned ? word.turnedWord() : word);
        }
    }

    private void writeWord(Word word) {
        for (int i = 0; i < word.spelling.length(); i++) {
            writeChar(word.spelling.charAt(i));
        }
    }

    private void writeChar(char c) {
        if (pageLength < PAGE_LIMIT) {
            page[pageLength] = c;
            pageLength++;
        }
    }

    private static boolean isLetter(char c) {
        return c >= 'a' && c <= 'z';
    }

    private static boolean breaksLaw(int tincture, int ground) {
        // Furs, COUNTERCHANGED and the NONE of a shield lie outside the metals and colours.
        if (tincture < 0 || tincture >= FIRST_FUR || ground < 0 || ground >= FIRST_FUR) {
            return false;
        }
        return (tincture < FIRST_COLOUR) == (ground < FIRST_COLOUR);
    }

    /** The words that shields are told with. The tinctures come first, each at the place of its number. */
    private enum Word {
        OR("or", TINCTURE, 0),
        ARGENT("argent", TINCTURE, 1),
        GULES("gules", TINCTURE, 2),
        AZURE("azure", TINCTURE, 3),
        VERT("vert", TINCTURE, 4),
        SABLE("sable", TINCTURE, 5),
        PURPURE("purpure", TINCTURE, 6),
        ERMINE("ermine", TINCTURE, 7),
        VAIR("vair", TINCTURE, 8),
        COUNTERCHANGE("counterchanged", OTHER, COUNTERCHANGED),
        PER("per", OTHER),
        QUARTERLY("quarterly", OTHER),
        AND("and", OTHER),
        OPEN("(", OTHER),
        CLOSE(")", OTHER),
        CHARGED("charged", OTHER),
        WITH("with", OTHER),
        CHIEF("chief", ORDINARY),
        FESS("fess", ORDINARY),
        PALE("pale", ORDINARY),
        BEND("bend", ORDINARY),
        CROSS("cross", ORDINARY),
        SALTIRE("saltire", ORDINARY),
        CHEVRON("chevron", ORDINARY),
        BORDURE("bordure", ORDINARY),
        A("a", NUMBER, 1),
        TWO("two", NUMBER, 2),
        THREE("three", NUMBER, 3),
        FOUR("four", NUMBER, 4),
        FIVE("five", NUMBER, 5),
        SIX("six", NUMBER, 6),
        ROUNDEL("roundel", CHARGE),
        BILLET("billet", CHARGE),
        LOZENGE("lozenge", CHARGE),
        ROUNDELS("roundels", CHARGES),
        BILLETS("billets", CHARGES),
        LOZENGES("lozenges", CHARGES),
        // Stands for every word that no shield has, and for the end of the words.
        UNKNOWN("", OTHER);

        final String spelling;
        final int kind;
        // Of a tincture or a coat its number, of a number word how many it tells.
        final int number;

        Word(String spelling, int kind) {
            this(spelling, kind, 0);
        }

        Word(String spelling, int kind, int number) {
            this.spelling = spelling;
            this.kind = kind;
            this.number = number;
        }

        boolean isSpelled(char[] row, int from, int to) {
            if (from < 0 || to > row.length || to - from != spelling.length()) {
                return false;
            }
            for (int i = 0; i < spelling.length(); i++) {
                if (row[from + i] != spelling.charAt(i)) {
                    return false;
                }
            }
            return true;
        }

        Word turnedWord() {
            // The tinctures that are exchanged are the pairs 0 and 1, 2 and 3, 4 and 5.
            return kind == TINCTURE && number < TURNED_TINCTURES ? WORDS[number ^ 1] : this;
        }

        boolean canBeCharged() {
            return this == CHIEF || this == FESS || this == PALE;
        }

        boolean canFollowPer() {
            return this == PALE || this == FESS || this == BEND;
        }
    }

    /** What a field is made of. */
    private interface Part {
        /** The tincture of cell x, y of a box of w by h cells in which the part is painted. */
        int tinctureAt(int x, int y, int w, int h);

        /** The tincture that the part is; NONE if it is a shield. */
        int plainTincture();
    }

    private static final class Plain implements Part {
        private final int tincture;

        Plain(int tincture) {
            this.tincture = tincture;
        }

        @Override
        public int tinctureAt(int x, int y, int w, int h) {
            return tincture;
        }

        @Override
        public int plainTincture() {
            return tincture;
        }
    }

    /** A field and the layers on it. The reader refuses what lies too deep, so that its depth is low. */
    private static final class Shield implements Part {
        // null if the field is not divided; both parts are its tincture then.
        private final Word division;
        private final Part first;
        private final Part second;
        private final Layer[] layers = new Layer[LAYER_LIMIT];
        private int layerCount;

        Shield(Word division, Part first, Part second) {
            this.division = division;
            this.first = first;
            this.second = second;
        }

        void addLayer(Layer layer) {
            if (layerCount < LAYER_LIMIT) {
                layers[layerCount] = layer;
                layerCount++;
            }
        }

        boolean canBeCounterchanged() {
            return division != null && first.plainTincture() != NONE && second.plainTincture() != NONE;
        }

        boolean isBrokenBy(int tincture) {
            return breaksLaw(tincture, first.plainTincture()) && breaksLaw(tincture, second.plainTincture());
        }

        @Override
        public int plainTincture() {
            return NONE;
        }

        @Override
        public int tinctureAt(int x, int y, int w, int h) {
            int field = fieldAt(x, y, w, h);
            // The topmost layer is the one that is seen.
            for (int i = layerCount - 1; i >= 0; i--) {
                if (layers[i].covers(x, y, w, h)) {
                    int tincture = layers[i].tincture;
                    return tincture == COUNTERCHANGED ? otherThan(field) : tincture;
                }
            }
            return field;
        }

        private int otherThan(int tincture) {
            return tincture == first.plainTincture() ? second.plainTincture() : first.plainTincture();
        }

        private int fieldAt(int x, int y, int w, int h) {
            if (division == null) {
                return first.tinctureAt(x, y, w, h);
            }
            if (division == Word.BEND) {
                return (x * h >= y * w ? first : second).tinctureAt(x, y, w, h);
            }
            boolean isRight = division != Word.FESS && x >= w / 2;
            boolean isLower = division != Word.PALE && y >= h / 2;
            int partWidth = division == Word.FESS ? w : isRight ? w - w / 2 : w / 2;
            int partHeight = division == Word.PALE ? h : isLower ? h - h / 2 : h / 2;
            Part part = isRight == isLower ? first : second;
            return part.tinctureAt(isRight ? x - w / 2 : x, isLower ? y - h / 2 : y, partWidth, partHeight);
        }
    }

    /** What is painted with one coat over a shield's field. */
    private abstract static class Layer {
        // May be COUNTERCHANGED.
        final int tincture;

        Layer(int tincture) {
            this.tincture = tincture;
        }

        /** Whether it has cell x, y of the shield's box of w by h cells. */
        abstract boolean covers(int x, int y, int w, int h);
    }

    private static final class Ordinary extends Layer {
        private final Word shape;

        Ordinary(Word shape, int tincture) {
            super(tincture);
            this.shape = shape;
        }

        @Override
        boolean covers(int x, int y, int w, int h) {
            switch (shape) {
                case CHIEF:
                    return y < h / 3;
                case FESS:
                    return isMiddle(y, h);
                case PALE:
                    return isMiddle(x, w);
                case BEND:
                    return isBend(x, y, w, h);
                case CROSS:
                    return isMiddle(y, h) || isMiddle(x, w);
                case SALTIRE:
                    return isBend(x, y, w, h) || isBend(w - 1 - x, y, w, h);
                case CHEVRON:
                    return isChevron(x, y, w, h);
                default:
                    return isEdge(x, w) || isEdge(y, h);
            }
        }

        private static boolean isMiddle(int place, int size) {
            return size / 3 <= place && place < size - size / 3;
        }

        private static boolean isBend(int x, int y, int w, int h) {
            return 3 * Math.abs(x * h - y * w) <= w * h / 2;
        }

        private static boolean isChevron(int x, int y, int w, int h) {
            int below = 2 * y * w - Math.abs(2 * x + 1 - w) * h - w * h / 2;
            return 0 <= below && below < w * h;
        }

        private static boolean isEdge(int place, int size) {
            return place < size / 8 + 1 || place >= size - size / 8 - 1;
        }
    }

    private static final class Charges extends Layer {
        private final Word shape;
        private final int number;
        // The ordinary that is charged with them; null if they lie on the field.
        private final Word ordinary;

        Charges(Word shape, int number, Word ordinary, int tincture) {
            super(tincture);
            this.shape = shape;
            this.number = number;
            this.ordinary = ordinary;
        }

        @Override
        boolean covers(int x, int y, int w, int h) {
            if (ordinary == Word.CHIEF) {
                return rowsCover(x, y, w, h / 3, 1);
            }
            if (ordinary == Word.FESS) {
                return rowsCover(x, y - h / 3, w, h - 2 * (h / 3), 1);
            }
            if (ordinary == Word.PALE) {
                return rowsCover(x - w / 3, y, w - 2 * (w / 3), h, number);
            }
            return rowsCover(x, y, w, h, (number + 1) / 2);
        }

        /** Whether they have cell x, y, which may lie outside, of the box of w by h cells they stand in. */
        private boolean rowsCover(int x, int y, int w, int h, int rows) {
            for (int r = 0; r < rows; r++) {
                int top = r * h / rows;
                int bottom = (r + 1) * h / rows;
                if (top <= y && y < bottom) {
                    return rowCovers(x, y - top, w, bottom - top, chargesInRow(r));
                }
            }
            return false;
        }

        private int chargesInRow(int r) {
            if (ordinary == Word.PALE) {
                return 1;
            }
            if (ordinary != null) {
                return number;
            }
            return number == 6 ? 3 - r : Math.min(2, number - 2 * r);
        }

        private boolean rowCovers(int x, int y, int w, int h, int charges) {
            for (int j = 0; j < charges; j++) {
                int left = j * w / charges;
                int right = (j + 1) * w / charges;
                if (left <= x && x < right) {
                    return chargeCovers(x - left, y, right - left, h);
                }
            }
            return false;
        }

        private boolean chargeCovers(int x, int y, int w, int h) {
            int u = Math.abs(2 * x + 1 - w);
            int v = Math.abs(2 * y + 1 - h);
            switch (shape) {
                case ROUNDEL:
                case ROUNDELS:
                    return 16 * (u * u * h * h + v * v * w * w) <= 9 * w * w * h * h;
                case BILLET:
                case BILLETS:
                    return 2 * u <= w && 4 * v <= 3 * h;
                default:
                    return 4 * (u * h + v * w) <= 3 * w * h;
            }
        }
    }

    /** A text's words and, when they were read as a shield, all that is asked of it. */
    private static final class Told {
        final Word[] words = new Word[TEXT_LIMIT];
        int wordCount;
        final int[] picture = new int[SIDE * SIDE];
        final int[] breachWords = new int[TEXT_LIMIT];
        int breachCount;
        int shieldCount;
        int itemCount;
        int chargeCount;
        int depth;
        boolean isRead;

        void splitText(char[] text, int length) {
            wordCount = 0;
            int from = 0;
            while (from < length) {
                int to = from + 1;
                if (isLetter(text[from])) {
                    while (to < length && isLetter(text[to])) {
                        to++;
                    }
                }
                if (text[from] != ' ') {
                    addWord(wordSpelled(text, from, to));
                }
                from = to;
            }
        }

        private void addWord(Word word) {
            if (wordCount < TEXT_LIMIT) {
                words[wordCount] = word;
                wordCount++;
            }
        }

        private static Word wordSpelled(char[] text, int from, int to) {
            for (int i = 0; i < WORDS.length; i++) {
                if (WORDS[i].isSpelled(text, from, to)) {
                    return WORDS[i];
                }
            }
            return Word.UNKNOWN;
        }

        Word wordAt(int i) {
            return i >= 0 && i < wordCount ? words[i] : Word.UNKNOWN;
        }

        boolean hasWordsOf(Told other) {
            if (wordCount != other.wordCount) {
                return false;
            }
            for (int i = 0; i < wordCount; i++) {
                if (words[i] != other.words[i]) {
                    return false;
                }
            }
            return true;
        }

        void forgetCounts() {
            breachCount = 0;
            shieldCount = 0;
            itemCount = 0;
            chargeCount = 0;
            depth = 0;
        }

        void addBreach(int word) {
            if (breachCount < TEXT_LIMIT) {
                breachWords[breachCount] = word;
                breachCount++;
            }
        }

        void paint(Shield whole) {
            for (int i = 0; i < picture.length; i++) {
                picture[i] = whole.tinctureAt(i % SIDE, i / SIDE, SIDE, SIDE);
            }
        }
    }

    /**
     * Reads words from left to right and takes a word only when a shield can begin with all up to it,
     * so that the first word that is not taken is the fault.
     */
    private static final class Reader {
        private final Told told;
        int at;

        Reader(Told told) {
            this.told = told;
        }

        /** The shield of all words; null with a fault, which is the word that is reached then. */
        Shield readWhole() {
            told.forgetCounts();
            Shield whole = readShield(1);
            return at == told.wordCount ? whole : null;
        }

        private Shield readShield(int depth) {
            told.shieldCount++;
            told.depth = Math.max(told.depth, depth);
            Shield shield = readField(depth);
            if (shield == null) {
                return null;
            }
            for (int i = 0; i < ITEM_LIMIT && told.wordAt(at).kind == NUMBER; i++) {
                if (!readItem(shield)) {
                    return null;
                }
            }
            return shield;
        }

        private Shield readField(int depth) {
            Word word = told.wordAt(at);
            if (word.kind == TINCTURE) {
                at++;
                Part plain = new Plain(word.number);
                return new Shield(null, plain, plain);
            }
            Word division = readDivision();
            if (division == null) {
                return null;
            }
            Part first = readPart(depth);
            if (first == null || !take(Word.AND)) {
                return null;
            }
            Part second = readPart(depth);
            return second == null ? null : new Shield(division, first, second);
        }

        private Word readDivision() {
            if (take(Word.QUARTERLY)) {
                return Word.QUARTERLY;
            }
            if (!take(Word.PER)) {
                return null;
            }
            Word division = told.wordAt(at);
            if (!division.canFollowPer()) {
                return null;
            }
            at++;
            return division;
        }

        private Part readPart(int depth) {
            Word word = told.wordAt(at);
            if (word.kind == TINCTURE) {
                at++;
                return new Plain(word.number);
            }
            if (depth >= DEPTH_LIMIT || !take(Word.OPEN)) {
                return null;
            }
            Shield inner = readShield(depth + 1);
            return inner != null && take(Word.CLOSE) ? inner : null;
        }

        private boolean readItem(Shield shield) {
            told.itemCount++;
            if (told.wordAt(at) != Word.A || told.wordAt(at + 1).kind != ORDINARY) {
                return readCharges(shield, null);
            }
            Ordinary ordinary = readOrdinary(shield);
            if (ordinary == null) {
                return false;
            }
            if (!ordinary.shape.canBeCharged() || !take(Word.CHARGED)) {
                return true;
            }
            return take(Word.WITH) && readCharges(shield, ordinary);
        }

        private Ordinary readOrdinary(Shield shield) {
            Word shape = told.wordAt(at + 1);
            at += 2;
            int tincture = readCoat(shield.canBeCounterchanged());
            if (tincture == NONE) {
                return null;
            }
            if (shield.isBrokenBy(tincture)) {
                told.addBreach(at - 1);
            }
            Ordinary ordinary = new Ordinary(shape, tincture);
            shield.addLayer(ordinary);
            return ordinary;
        }

        /** Charges on an ordinary, or on the field if it is null. */
        private boolean readCharges(Shield shield, Ordinary ordinary) {
            Word number = told.wordAt(at);
            if (number.kind != NUMBER) {
                return false;
            }
            at++;
            Word shape = told.wordAt(at);
            if (shape.kind != (number == Word.A ? CHARGE : CHARGES)) {
                return false;
            }
            at++;
            int tincture = readCoat(ordinary == null && shield.canBeCounterchanged());
            if (tincture == NONE) {
                return false;
            }
            if (ordinary == null ? shield.isBrokenBy(tincture) : breaksLaw(tincture, ordinary.tincture)) {
                told.addBreach(at - 1);
            }
            Word place = ordinary == null ? null : ordinary.shape;
            shield.addLayer(new Charges(shape, number.number, place, tincture));
            told.chargeCount += number.number;
            return true;
        }

        /** A tincture or COUNTERCHANGED; NONE if there is no coat. */
        private int readCoat(boolean mayBeCounterchanged) {
            Word word = told.wordAt(at);
            if (word.kind != TINCTURE && !(mayBeCounterchanged && word == Word.COUNTERCHANGE)) {
                return NONE;
            }
            at++;
            return word.number;
        }

        private boolean take(Word word) {
            if (told.wordAt(at) != word) {
                return false;
            }
            at++;
            return true;
        }
    }
}
