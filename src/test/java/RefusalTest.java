import java.util.function.Consumer;

/** Calls that throw: what they throw, which exception wins, and that they change nothing. */
public final class RefusalTest {
    private static final int[] NO_PLACES = {-1, 24, Integer.MIN_VALUE, Integer.MAX_VALUE};
    private static final int[] NO_COUNTS = {-1, 4, Integer.MIN_VALUE, Integer.MAX_VALUE};
    private static final int READ = 0;
    private static final int NOT_READ = 1;
    private static final int ALSO_READ = 2;

    private RefusalTest() {
    }

    public static void main(String[] args) {
        notReadAtFirst();
        read();
        cell();
        row();
        cells();
        differ();
        breaches();
        breach();
        count();
        same();
        tell();
        turned();
        Due.end();
    }

    /** Shields 0 and 2 are read, the page is written, and a text is begun. */
    private static ToldShields ready() {
        ToldShields shields = new ToldShields();
        Due.read(shields, READ, "or a bend argent");
        Due.read(shields, ALSO_READ, "per pale (gules) and vert");
        shields.turned(READ);
        Due.type(shields, "vert a pa");
        return shields;
    }

    /** That a call throws this, and that all is as it was. */
    private static void dueRefused(String call, Class<?> want, Consumer<ToldShields> ask) {
        ToldShields shields = ready();
        Due.dueThrow(call, want, () -> ask.accept(shields));
        String after = " after " + call;
        Due.due("the page" + after, Due.page(shields), "argent a bend or");
        Due.due("the picture" + after, shields.cells(READ, 1), 196);
        Due.due("the other picture" + after, shields.row(ALSO_READ, 0, 2), 4095);
        Due.due("the breaches" + after, shields.breaches(READ), 1);
        Due.due("the count" + after, shields.count(ALSO_READ, 0), 2);
        Due.dueThrow("what was not read" + after, Due.STATE, () -> shields.breaches(NOT_READ));
        Due.type(shields, "le or");
        Due.due("read of the text" + after, shields.read(NOT_READ), 4);
        Due.due("tell" + after, shields.tell(READ), 16);
    }

    private static void notReadAtFirst() {
        Due.sentence("Terms", "There are SHIELDS 0 .. 2, at first not read");
        ToldShields shields = new ToldShields();
        for (int s = 0; s < 3; s++) {
            int shield = s;
            Due.dueThrow("cell of " + s, Due.STATE, () -> shields.cell(shield, 0, 0));
            Due.dueThrow("row of " + s, Due.STATE, () -> shields.row(shield, 0, 0));
            Due.dueThrow("cells of " + s, Due.STATE, () -> shields.cells(shield, 0));
            Due.dueThrow("differ of " + s, Due.STATE, () -> shields.differ(shield, shield));
            Due.dueThrow("breaches of " + s, Due.STATE, () -> shields.breaches(shield));
            Due.dueThrow("breach of " + s, Due.STATE, () -> shields.breach(shield, 0));
            Due.dueThrow("count of " + s, Due.STATE, () -> shields.count(shield, 0));
            Due.dueThrow("same of " + s, Due.STATE, () -> shields.same(shield, shield));
            Due.dueThrow("tell of " + s, Due.STATE, () -> shields.tell(shield));
            Due.dueThrow("turned of " + s, Due.STATE, () -> shields.turned(shield));
        }
    }

    private static void read() {
        Due.sentence("Promise 4", "IndexOutOfBounds (the text stays)");
        for (int s : Due.NO_SHIELDS) {
            dueRefused("read(" + s + ")", Due.INDEX, shields -> shields.read(s));
        }
    }

    private static void cell() {
        Due.sentence("Promise 5", "IndexOutOfBounds, also when there is no such cell; IllegalState");
        for (int s : Due.NO_SHIELDS) {
            dueRefused("cell of " + s, Due.INDEX, shields -> shields.cell(s, 0, 0));
            dueRefused("cell of " + s + ", no cell", Due.INDEX, shields -> shields.cell(s, -1, 24));
        }
        for (int place : NO_PLACES) {
            for (int s : new int[] {READ, NOT_READ}) {
                dueRefused("cell of " + s + " at x " + place, Due.INDEX, shields -> shields.cell(s, place, 0));
                dueRefused("cell of " + s + " at y " + place, Due.INDEX, shields -> shields.cell(s, 23, place));
                dueRefused("cell of " + s + " at " + place, Due.INDEX, shields -> shields.cell(s, place, place));
            }
        }
        dueRefused("cell, not read", Due.STATE, shields -> shields.cell(NOT_READ, 0, 0));
        dueRefused("the last cell, not read", Due.STATE, shields -> shields.cell(NOT_READ, 23, 23));
    }

    private static void row() {
        Due.sentence("Promise 6", "IndexOutOfBounds, also when there is no such row; IllegalState");
        for (int s : Due.NO_SHIELDS) {
            dueRefused("row of " + s, Due.INDEX, shields -> shields.row(s, 0, 0));
            dueRefused("row of " + s + ", no tincture", Due.INDEX, shields -> shields.row(s, 0, 9));
        }
        for (int y : NO_PLACES) {
            for (int s : new int[] {READ, NOT_READ}) {
                dueRefused("row " + y + " of " + s, Due.INDEX, shields -> shields.row(s, y, 0));
                dueRefused("row " + y + " of " + s + ", no tincture", Due.INDEX, shields -> shields.row(s, y, -1));
            }
        }
        dueRefused("row, not read", Due.STATE, shields -> shields.row(NOT_READ, 0, 0));
        dueRefused("the last row, not read", Due.STATE, shields -> shields.row(NOT_READ, 23, 0));
        dueRefused("row, not read, no tincture", Due.STATE, shields -> shields.row(NOT_READ, 0, 9));
    }

    private static void cells() {
        Due.sentence("Promise 7", "IndexOutOfBounds; IllegalState");
        for (int tincture : new int[] {0, 8, -1, 9}) {
            for (int s : Due.NO_SHIELDS) {
                dueRefused("cells of " + s, Due.INDEX, shields -> shields.cells(s, tincture));
            }
            dueRefused("cells, not read", Due.STATE, shields -> shields.cells(NOT_READ, tincture));
        }
    }

    private interface OfTwo {
        Object ask(ToldShields shields, int one, int other);
    }

    private static void dueTwoShields(String call, OfTwo ofTwo) {
        for (int s : Due.NO_SHIELDS) {
            for (int there : new int[] {READ, NOT_READ, s}) {
                dueRefused(call + " of " + s + " and " + there, Due.INDEX, shields -> ofTwo.ask(shields, s, there));
                dueRefused(call + " of " + there + " and " + s, Due.INDEX, shields -> ofTwo.ask(shields, there, s));
            }
        }
        dueRefused(call + ", other not read", Due.STATE, shields -> ofTwo.ask(shields, READ, NOT_READ));
        dueRefused(call + ", one not read", Due.STATE, shields -> ofTwo.ask(shields, NOT_READ, ALSO_READ));
        dueRefused(call + ", both not read", Due.STATE, shields -> ofTwo.ask(shields, NOT_READ, NOT_READ));
    }

    private static void differ() {
        Due.sentence("Promise 8", "IndexOutOfBounds; IllegalState: one was not read");
        dueTwoShields("differ", (shields, one, other) -> shields.differ(one, other));
    }

    private static void same() {
        Due.sentence("Promise 12", "IndexOutOfBounds; IllegalState: one was not read");
        dueTwoShields("same", (shields, one, other) -> shields.same(one, other));
    }

    private static void breaches() {
        Due.sentence("Promise 9", "IndexOutOfBounds; IllegalState");
        for (int s : Due.NO_SHIELDS) {
            dueRefused("breaches of " + s, Due.INDEX, shields -> shields.breaches(s));
        }
        dueRefused("breaches, not read", Due.STATE, shields -> shields.breaches(NOT_READ));
    }

    private static void breach() {
        Due.sentence("Promise 10", "IndexOutOfBounds; IllegalState");
        for (int i : new int[] {0, -1, 1, Integer.MAX_VALUE}) {
            for (int s : Due.NO_SHIELDS) {
                dueRefused("breach " + i + " of " + s, Due.INDEX, shields -> shields.breach(s, i));
            }
            dueRefused("breach " + i + ", not read", Due.STATE, shields -> shields.breach(NOT_READ, i));
        }
    }

    private static void count() {
        Due.sentence("Promise 11", "IndexOutOfBounds; IllegalArgument: what is not 0 .. 3; IllegalState");
        for (int what : NO_COUNTS) {
            dueRefused("count " + what, Due.ARGUMENT, shields -> shields.count(READ, what));
            dueRefused("count " + what + ", not read", Due.ARGUMENT, shields -> shields.count(NOT_READ, what));
            for (int s : Due.NO_SHIELDS) {
                dueRefused("count " + what + " of " + s, Due.INDEX, shields -> shields.count(s, what));
            }
        }
        for (int what = 0; what <= 3; what++) {
            int asked = what;
            dueRefused("count " + what + ", not read", Due.STATE, shields -> shields.count(NOT_READ, asked));
            for (int s : Due.NO_SHIELDS) {
                dueRefused("count " + what + " of " + s, Due.INDEX, shields -> shields.count(s, asked));
            }
        }
    }

    private static void tell() {
        Due.sentence("Promise 13", "IndexOutOfBounds; IllegalState");
        for (int s : Due.NO_SHIELDS) {
            dueRefused("tell of " + s, Due.INDEX, shields -> shields.tell(s));
        }
        dueRefused("tell, not read", Due.STATE, shields -> shields.tell(NOT_READ));
    }

    private static void turned() {
        Due.sentence("Promise 14", "IndexOutOfBounds; IllegalState");
        for (int s : Due.NO_SHIELDS) {
            dueRefused("turned of " + s, Due.INDEX, shields -> shields.turned(s));
        }
        dueRefused("turned, not read", Due.STATE, shields -> shields.turned(NOT_READ));
    }
}
