import java.util.ArrayList;
import java.util.List;
import java.util.Random;

/** Random runs of all calls, each of as many as an object is used for, against the model. */
public final class RunTest {
    private static final int RUNS = 1500;
    private static final List<String> OF_ONE = List.of("cells", "breaches", "breach", "count", "tell", "turned");

    private final Random chance;
    private final Twins twins;
    private final List<String> texts = new ArrayList<>();

    private RunTest(int run) {
        chance = new Random(run);
        twins = new Twins("run " + run);
        for (int i = 0; i < 4; i++) {
            texts.add(text(i % 2 == 0));
        }
    }

    public static void main(String[] args) {
        Due.sentence("What it is", "An object is used for at most 512 calls after it has been made");
        randomRuns();
        repeatedCalls();
        manyReadings();
        longReadings();
        Due.end();
    }

    private static void randomRuns() {
        for (int i = 0; i < RUNS; i++) {
            RunTest run = new RunTest(i);
            while (run.twins.hasCallsLeft()) {
                run.step();
            }
        }
    }

    private static void repeatedCalls() {
        repeat("type", '(');
        repeat("wipe");
        repeat("read", 0);
        repeat("read", 3);
        repeat("cell", 0, 23, 23);
        repeat("row", 0, 23, 1);
        repeat("cells", 0, 1);
        repeat("differ", 0, 0);
        repeat("breaches", 0);
        repeat("breach", 0, 0);
        repeat("count", 0, 2);
        repeat("same", 0, 0);
        repeat("tell", 0);
        repeat("turned", 0);
        repeat("length");
        repeat("charAt", 15);
    }

    /** One call as often as an object is used, behind a reading. */
    private static void repeat(String call, int... arguments) {
        Twins twins = new Twins("repeated " + call);
        twins.type("or a bend argent");
        twins.ask("read", 0);
        twins.ask("turned", 0);
        while (twins.hasCallsLeft()) {
            twins.ask(call, arguments);
        }
    }

    private static void manyReadings() {
        Twins twins = new Twins("many readings");
        for (int i = 0; twins.hasCallsLeft(); i++) {
            twins.type(i % 4 == 0 ? "or" : i % 4 == 1 ? "vair a" : "gules a pale azure");
            twins.ask("read", i % 3);
            twins.ask("differ", i % 3, (i + 1) % 3);
            twins.ask("breaches", i % 3);
        }
    }

    private static void longReadings() {
        Twins twins = new Twins("long readings");
        String inner = "(per bend(or a pale or)and(or a pale or)a pale or)";
        for (int i = 0; twins.hasCallsLeft(); i++) {
            twins.type("per bend" + inner + "and" + inner + "a pale or");
            twins.ask("read", i % 3);
            twins.ask("turned", i % 3);
            twins.ask("cells", i % 3, 0);
        }
    }

    private String text(boolean isRight) {
        List<String> words = isRight ? Tree.words(Tree.shield(chance, 1, 30)) : FaultTest.changedWords(chance, 30);
        return Tree.text(chance, words);
    }

    private void step() {
        int kind = chance.nextInt(100);
        if (kind < 6) {
            // Few texts, so that shields have the same words at times.
            twins.type(Tree.pick(chance, texts));
            twins.ask("read", shield());
        } else if (kind < 8) {
            twins.type(text(chance.nextBoolean()));
        } else if (kind < 12) {
            twins.ask("type", oneOf(31, 32, 126, 127, 'a', '(', chance.nextInt(65536)));
        } else if (kind < 14) {
            twins.ask("wipe");
        } else if (kind < 18) {
            twins.ask("read", shield());
        } else {
            question();
        }
    }

    private void question() {
        switch (chance.nextInt(6)) {
            case 0 -> twins.ask("cell", shield(), place(), place());
            case 1 -> twins.ask("row", shield(), place(), number(9));
            case 2 -> twins.ask(chance.nextBoolean() ? "differ" : "same", shield(), shield());
            case 3 -> twins.ask("length");
            case 4 -> twins.ask("charAt", number(150));
            default -> ofOneShield(Tree.pick(chance, OF_ONE));
        }
    }

    private void ofOneShield(String call) {
        switch (call) {
            case "cells" -> twins.ask(call, shield(), number(9));
            case "breach", "count" -> twins.ask(call, shield(), number(4));
            default -> twins.ask(call, shield());
        }
    }

    private int oneOf(int... numbers) {
        return numbers[chance.nextInt(numbers.length)];
    }

    private int shield() {
        return chance.nextInt(12) == 0 ? oneOf(-1, 3, chance.nextInt()) : chance.nextInt(3);
    }

    private int place() {
        return chance.nextInt(12) == 0 ? oneOf(-1, 24, chance.nextInt()) : oneOf(0, 23, chance.nextInt(24));
    }

    /** Mostly from 0 up to a limit, at times beyond them. */
    private int number(int limit) {
        return chance.nextInt(10) == 0 ? oneOf(-1, limit, chance.nextInt()) : chance.nextInt(limit);
    }
}
