import java.util.Objects;

/** What the tests share: compares answers with those that are due, and ends with 1 if one was wrong. */
final class Due {
    private static int wrong = 0;
    private static int asked = 0;

    private Due() {
    }

    static void due(String call, Object got, Object want) {
        asked++;
        if (!Objects.equals(got, want)) {
            wrong++;
            System.out.println(call + " answered " + got + ", due is " + want);
        }
    }

    static void dueThrow(String call, Class<?> want, Runnable run) {
        Class<?> got = null;
        try {
            run.run();
        } catch (RuntimeException e) {
            got = e.getClass();
        }
        due(call + " throws", got, want);
    }

    static void type(ToldShields shields, String text) {
        for (char c : text.toCharArray()) {
            due("type(" + (int) c + ") of '" + text + "'", shields.type(c), true);
        }
    }

    static int read(ToldShields shields, int shield, String text) {
        type(shields, text);
        return shields.read(shield);
    }

    /** A new object whose shield 0 is the one that the text tells. */
    static ToldShields told(String text) {
        ToldShields shields = new ToldShields();
        int words = read(shields, 0, text);
        due("read of '" + text + "' goes well", words > 0, true);
        return shields;
    }

    static String page(ToldShields shields) {
        StringBuilder page = new StringBuilder();
        for (int p = 0; p < shields.length(); p++) {
            page.append(shields.charAt(p));
        }
        return page.toString();
    }

    static void end() {
        System.out.println(asked + " answers, " + wrong + " wrong");
        if (wrong != 0) {
            System.exit(1);
        }
    }
}
