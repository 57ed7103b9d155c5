import java.util.Objects;

/** What the tests share: compares answers with those that are due, and ends with 1 if one was wrong. */
final class Due {
    static final Class<?> INDEX = IndexOutOfBoundsException.class;
    static final Class<?> STATE = IllegalStateException.class;
    static final Class<?> ARGUMENT = IllegalArgumentException.class;
    /** Numbers that no shield has. */
    static final int[] NO_SHIELDS = {-1, 3, Integer.MIN_VALUE, Integer.MAX_VALUE};
    /** The sum of 2^x over all cells of a row. */
    static final int ALL = (1 << 24) - 1;

    private static String sentence = "";
    private static int sentences = 0;
    private static int wrong = 0;
    private static int asked = 0;

    private Due() {
    }

    /** Tells the words of the document that the answers which follow are due by. */
    static void sentence(String where, String words) {
        sentence = where + ", \"" + words + "\": ";
        sentences++;
    }

    static void due(String call, Object got, Object want) {
        asked++;
        if (!Objects.equals(got, want)) {
            wrong++;
            System.out.println(sentence + call + " answered " + got + ", due is " + want);
        }
    }

    static void dueThrow(String call, Class<?> want, Runnable run) {
        Class<?> got = null;
        try {
            run.run();
        } catch (RuntimeException e) {
            got = e.getClass();
        }
        due(call + " throws", got, want);
    }

    static void type(ToldShields shields, String text) {
        for (char c : text.toCharArray()) {
            due("type(" + (int) c + ") of '" + text + "'", shields.type(c), true);
        }
    }

    static int read(ToldShields shields, int shield, String text) {
        type(shields, text);
        return shields.read(shield);
    }

    /** That a new object answers this when it reads the text. */
    static void dueRead(String text, int want) {
        due("read of '" + text + "'", read(new ToldShields(), 0, text), want);
    }

    /** A new object whose shield 0 is the one that the text tells. */
    static ToldShields told(String text) {
        ToldShields shields = new ToldShields();
        int words = read(shields, 0, text);
        due("read of '" + text + "' goes well", words > 0, true);
        return shields;
    }

    static String page(ToldShields shields) {
        StringBuilder page = new StringBuilder();
        for (int p = 0; p < shields.length(); p++) {
            page.append(shields.charAt(p));
        }
        return page.toString();
    }

    /** The sum of 2^x over the cells from one column to another. */
    static int bits(int from, int to) {
        return (1 << (to + 1)) - (1 << from);
    }

    static void end() {
        String about = sentences == 0 ? "" : sentences + " sentences, ";
        System.out.println(about + asked + " answers, " + wrong + " wrong");
        if (wrong != 0) {
            System.exit(1);
        }
    }
}
