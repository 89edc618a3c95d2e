import java.util.HashSet;
import java.util.Map;
import java.util.Set;
import java.util.TreeMap;
import java.util.TreeSet;

/** Which of the class's own methods call which. */
final class Calls {
    private final Map<String, Set<String>> calls = new TreeMap<>();
    private final Map<String, Integer> depths = new TreeMap<>();

    void addMethod(String method) {
        calls.computeIfAbsent(method, some -> new TreeSet<>());
    }

    void addCall(String method, String called) {
        addMethod(method);
        calls.get(method).add(called);
    }

    Set<String> methods() {
        return calls.keySet();
    }

    boolean callsItself(String method) {
        return calls.get(method).contains(method);
    }

    boolean isCalled(String method) {
        for (Map.Entry<String, Set<String>> entry : calls.entrySet()) {
            if (!entry.getKey().equals(method) && entry.getValue().contains(method)) {
                return true;
            }
        }
        return false;
    }

    /** Whether it calls itself through others. */
    boolean isInRing(String method) {
        Set<String> reached = new HashSet<>();
        for (String called : calls.get(method)) {
            if (!called.equals(method)) {
                reach(called, reached);
            }
        }
        return reached.contains(method);
    }

    private void reach(String method, Set<String> reached) {
        if (reached.add(method)) {
            for (String called : calls.getOrDefault(method, Set.of())) {
                reach(called, reached);
            }
        }
    }

    /** How many methods are open at once, the longest way; its calls of itself count once. */
    int depth(String method) {
        if (!depths.containsKey(method)) {
            depths.put(method, 1);
            int deepest = 0;
            for (String called : calls.getOrDefault(method, Set.of())) {
                if (!called.equals(method)) {
                    deepest = Math.max(deepest, depth(called));
                }
            }
            depths.put(method, 1 + deepest);
        }
        return depths.get(method);
    }
}
