import java.util.HashMap;
import java.util.HashSet;
import java.util.Map;
import java.util.Set;
import java.util.TreeMap;
import java.util.TreeSet;

/** Which methods call which, by their names. */
final class Calls {
    private final Map<String, Set<String>> called = new TreeMap<>();
    private final Map<String, Integer> depths = new HashMap<>();

    void add(String caller, String callee) {
        called.computeIfAbsent(caller, k -> new TreeSet<>()).add(callee);
    }

    private Set<String> calledBy(String method) {
        return called.getOrDefault(method, Set.of());
    }

    private Set<String> reachedFrom(String method) {
        Set<String> reached = new HashSet<>();
        reach(method, reached);
        return reached;
    }

    private void reach(String method, Set<String> reached) {
        for (String callee : calledBy(method)) {
            if (reached.add(callee)) {
                reach(callee, reached);
            }
        }
    }

    /** The methods that can be open more than once at a time. */
    Set<String> recursive() {
        Set<String> recursive = new TreeSet<>();
        for (String method : called.keySet()) {
            if (reachedFrom(method).contains(method)) {
                recursive.add(method);
            }
        }
        return recursive;
    }

    /** How many calls stand open at once at most, methods that call one another being counted as one. */
    int greatestDepth() {
        int greatest = 0;
        for (String method : called.keySet()) {
            greatest = Math.max(greatest, depth(method));
        }
        return greatest;
    }

    private int depth(String method) {
        Integer known = depths.get(method);
        if (known != null) {
            return known;
        }
        Set<String> circle = circleOf(method);
        int below = 0;
        for (String member : circle) {
            for (String callee : calledBy(member)) {
                below = circle.contains(callee) ? below : Math.max(below, depth(callee));
            }
        }
        depths.put(method, below + 1);
        return below + 1;
    }

    private Set<String> circleOf(String method) {
        Set<String> circle = new TreeSet<>(Set.of(method));
        for (String other : reachedFrom(method)) {
            if (reachedFrom(other).contains(method)) {
                circle.add(other);
            }
        }
        return circle;
    }
}
