import com.sun.management.ThreadMXBean;
import java.lang.management.ManagementFactory;
import java.util.List;

/**
 * All calls of one run live in one room of some 600,000 objects and 7.3 million fields and elements.
 * An object takes 16 bytes at least, a field or element one, so that a run of few bytes has few of them.
 */
public final class RoomTest {
    private static final long FEW_BYTES = 1 << 17;
    private static final List<String> SHIELDS = List.of(
            "or",
            "or a pale or charged with a billet or two billets or two billets or two billets or",
            "per bend(per bend(or a pale or)and(or a pale or)a pale or)and"
                    + "(per bend(or a pale or)and(or a pale or)a pale or)a pale or");
    private static final List<String> NO_SHIELDS = List.of(
            "",
            "?",
            "(".repeat(120),
            "quarterly(quarterly(or)and(or))and(quarterly(or)and(quarterly or and or");

    private RoomTest() {
    }

    public static void main(String[] args) {
        // The first use of a class makes objects of the machine's own, which are no part of a run.
        bytesOfReadings(SHIELDS.get(1));
        bytesOfQuestions(SHIELDS.get(1));
        for (String text : SHIELDS) {
            dueFew("readings of '" + text + "'", bytesOfReadings(text));
            dueFew("questions about '" + text + "'", bytesOfQuestions(text));
        }
        for (String text : NO_SHIELDS) {
            dueFew("readings of '" + text + "'", bytesOfReadings(text));
        }
        Due.end();
    }

    private static void dueFew(String run, long bytes) {
        Due.due("few bytes, not " + bytes + ", for a run of " + run, bytes < FEW_BYTES, true);
    }

    private static long bytesSoFar() {
        return ((ThreadMXBean) ManagementFactory.getThreadMXBean()).getCurrentThreadAllocatedBytes();
    }

    private static long bytesOfReadings(String text) {
        long before = bytesSoFar();
        ToldShields shields = new ToldShields();
        for (int i = 0; i < Twins.MOST_CALLS; i++) {
            int place = i % (text.length() + 1);
            if (place < text.length()) {
                shields.type(text.charAt(place));
            } else {
                shields.read(i % 3);
            }
        }
        return bytesSoFar() - before;
    }

    private static long bytesOfQuestions(String text) {
        ToldShields shields = Due.told(text);
        long before = bytesSoFar();
        for (int i = text.length() + 1; i < Twins.MOST_CALLS; i++) {
            ask(shields, i % 14);
        }
        return bytesSoFar() - before;
    }

    private static void ask(ToldShields shields, int question) {
        switch (question) {
            case 0 -> shields.type('(');
            case 1 -> shields.wipe();
            case 2 -> shields.cell(0, 23, 23);
            case 3 -> shields.row(0, 23, 0);
            case 4 -> shields.cells(0, 0);
            case 5 -> shields.differ(0, 0);
            case 6 -> shields.breaches(0);
            case 7 -> shields.breach(0, 0);
            case 8 -> shields.count(0, 2);
            case 9 -> shields.same(0, 0);
            case 10 -> shields.tell(0);
            case 11 -> shields.turned(0);
            case 12 -> shields.length();
            default -> shields.charAt(0);
        }
    }
}
