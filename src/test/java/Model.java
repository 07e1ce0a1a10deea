import java.util.ArrayDeque;
import java.util.ArrayList;
import java.util.Deque;
import java.util.HashSet;
import java.util.List;
import java.util.Map;
import java.util.Set;
import java.util.TreeMap;
import java.util.TreeSet;

/** The document a second time, with the library's collections and nothing kept that can be sought. */
final class Model {
    /** A task; the order of the ready ones stands in the list of its core. */
    static final class Task {
        final int number;
        final int rank;
        final int core;
        final Map<Integer, Integer> lengths = new TreeMap<>();
        final Deque<Integer> held = new ArrayDeque<>();
        boolean waits;
        boolean event;

        Task(int number, int rank, int core) {
            this.number = number;
            this.rank = rank;
            this.core = core;
        }
    }

    private final List<Task> tasks = new ArrayList<>();
    private int resources;
    private final List<Task> ready = new ArrayList<>();
    private long time;
    private final List<Deque<Integer>> locksOf = List.of(new ArrayDeque<>(), new ArrayDeque<>(), new ArrayDeque<>());
    /** Pairs of core and lock, the one that spins the longest first. */
    private final List<int[]> spinners = new ArrayList<>();

    int task(int rank, int core) {
        if (rank < 1 || rank > 20 || core < 1 || core > 3) {
            return -2;
        }
        if (tasks.size() == 10) {
            return -4;
        }
        tasks.add(new Task(tasks.size() + 1, rank, core));
        return tasks.size();
    }

    int resource() {
        return resources == 8 ? -4 : ++resources;
    }

    int uses(int number, int resource, long length) {
        Task task = find(number);
        if (task == null || unknownResource(resource)) {
            return -1;
        }
        if (length < 1 || length > 1000) {
            return -2;
        }
        for (Task other : tasks) {
            boolean awake = other.waits || ready.contains(other);
            if (other.core == task.core ? awake : other.lengths.containsKey(resource)) {
                return -3;
            }
        }
        return task.lengths.put(resource, (int) length) == null ? 1 : 0;
    }

    int ceiling(int resource) {
        if (unknownResource(resource)) {
            return -1;
        }
        int greatest = 0;
        for (Task task : tasks) {
            if (task.lengths.containsKey(resource)) {
                greatest = Math.max(greatest, task.rank);
            }
        }
        return greatest;
    }

    int step(int number, int kind, int resource, long t) {
        Task task = find(number);
        if (task == null || ((kind == 1 || kind == 2) && unknownResource(resource))) {
            return -1;
        }
        if (kind < 0 || kind > 5 || t < 0 || t > 1000000000 || t < time) {
            return -2;
        }
        int answer = doStep(task, kind, resource);
        if (answer >= 0 || answer == -14) {
            time = t;
        }
        return answer;
    }

    private int doStep(Task task, int kind, int resource) {
        boolean sleeps = !task.waits && !ready.contains(task);
        if (kind == 0) {
            if (!sleeps) {
                return -3;
            }
            ready.add(task);
            return task == running(task.core) ? 1 : 0;
        }
        if (sleeps) {
            return -3;
        }
        if (kind == 5) {
            if (task.waits) {
                task.waits = false;
                ready.add(task);
            } else {
                task.event = true;
            }
            return task == running(task.core) ? 1 : 0;
        }
        if (task.waits) {
            return -3;
        }
        if (task != running(task.core)) {
            return 0;
        }
        return kind == 1 ? take(task, resource) : kind == 2 ? giveBack(task, resource)
                : kind == 3 ? end(task) : await(task);
    }

    private int take(Task task, int resource) {
        if (!task.lengths.containsKey(resource)) {
            return -11;
        }
        if (task.held.contains(resource)) {
            return -12;
        }
        if (holder(resource) != 0) {
            throw new IllegalStateException("two tasks would hold a resource");
        }
        task.held.push(resource);
        return 1;
    }

    private int giveBack(Task task, int resource) {
        if (task.held.isEmpty() || task.held.peek() != resource) {
            return -13;
        }
        task.held.pop();
        return 1;
    }

    private int end(Task task) {
        int answer = task.held.isEmpty() ? 1 : -14;
        task.held.clear();
        task.event = false;
        ready.remove(task);
        return answer;
    }

    private int await(Task task) {
        if (!task.held.isEmpty()) {
            return -15;
        }
        if (task.event) {
            task.event = false;
            return 1;
        }
        task.waits = true;
        ready.remove(task);
        return 0;
    }

    private Task running(int core) {
        return spins(core) ? null : first(ready, core);
    }

    private Task first(List<Task> readyOnes, int core) {
        Task best = null;
        for (Task task : readyOnes) {
            if (task.core == core && (best == null || rankNow(task) > rankNow(best))) {
                best = task;
            }
        }
        return best;
    }

    private int rankNow(Task task) {
        int greatest = task.rank;
        for (int resource : task.held) {
            greatest = Math.max(greatest, ceiling(resource));
        }
        return greatest;
    }

    int rank(int number) {
        Task task = find(number);
        return task == null ? -1 : rankNow(task);
    }

    int holder(int resource) {
        if (unknownResource(resource)) {
            return -1;
        }
        for (Task task : tasks) {
            if (task.held.contains(resource)) {
                return task.number;
            }
        }
        return 0;
    }

    long blocking(int number) {
        Task task = find(number);
        if (task == null) {
            return -1;
        }
        long longest = 0;
        for (Task other : tasks) {
            for (int resource : other.lengths.keySet()) {
                if (mayDelay(other, resource, task)) {
                    longest = Math.max(longest, other.lengths.get(resource));
                }
            }
        }
        return longest;
    }

    private boolean mayDelay(Task other, int resource, Task task) {
        return other.core == task.core && other.rank < task.rank && ceiling(resource) >= task.rank;
    }

    int lower(int number, int i) {
        Task task = find(number);
        if (task == null) {
            return -1;
        }
        Set<Integer> numbers = new TreeSet<>();
        for (Task other : tasks) {
            for (int resource : other.lengths.keySet()) {
                if (mayDelay(other, resource, task)) {
                    numbers.add(other.number);
                }
            }
        }
        List<Integer> sorted = new ArrayList<>(numbers);
        return i < 0 || i >= sorted.size() ? 0 : sorted.get(i);
    }

    int lock(int core, int n) {
        if (core < 1 || core > 3) {
            return -1;
        }
        if (n == 0 || n < -8 || n > 8) {
            return -2;
        }
        if (spins(core)) {
            return -3;
        }
        Deque<Integer> mine = locksOf.get(core - 1);
        if (n < 0) {
            if (mine.isEmpty() || mine.peek() != -n) {
                return -17;
            }
            mine.pop();
            handOver(-n);
            return 1;
        }
        for (int held : mine) {
            if (n <= held) {
                return -16;
            }
        }
        if (owner(n) != 0) {
            spinners.add(new int[] {core, n});
            return 0;
        }
        mine.push(n);
        return 1;
    }

    private void handOver(int n) {
        for (int[] spinner : spinners) {
            if (spinner[1] == n) {
                locksOf.get(spinner[0] - 1).push(n);
                spinners.remove(spinner);
                return;
            }
        }
    }

    private int owner(int n) {
        for (int core = 1; core <= 3; core++) {
            if (locksOf.get(core - 1).contains(n)) {
                return core;
            }
        }
        return 0;
    }

    private boolean spins(int core) {
        return wanted(core) != 0;
    }

    private int wanted(int core) {
        for (int[] spinner : spinners) {
            if (spinner[0] == core) {
                return spinner[1];
            }
        }
        return 0;
    }

    boolean ring() {
        for (int[] spinner : spinners) {
            Set<Integer> seen = new HashSet<>();
            int core = spinner[0];
            while (spins(core) && seen.add(core)) {
                core = owner(wanted(core));
            }
            if (spins(core) && core == spinner[0]) {
                return true;
            }
        }
        return false;
    }

    /** The trial over copies of the tasks, each with its ticks written out beforehand. */
    int plain(long phases) {
        List<Task> copies = new ArrayList<>();
        List<Deque<Integer>> ticks = new ArrayList<>();
        List<Set<Integer>> delays = new ArrayList<>();
        for (Task task : tasks) {
            Task copy = new Task(task.number, task.rank, task.core);
            copies.add(copy);
            ticks.add(ticksOf(task));
            delays.add(new HashSet<>());
        }
        List<Task> started = new ArrayList<>();
        for (int tick = 0; tick < 8 || !started.isEmpty(); tick++) {
            for (Task copy : copies) {
                if (((phases >> (3 * (copy.number - 1))) & 7) == tick) {
                    started.add(copy);
                }
            }
            for (int core = 1; core <= 3; core++) {
                Task runner = first(started, core);
                if (runner != null) {
                    trialTick(runner, ticks.get(runner.number - 1), started, delays);
                }
            }
        }
        int greatest = 0;
        for (Set<Integer> delay : delays) {
            greatest = Math.max(greatest, delay.size());
        }
        return greatest;
    }

    private static Deque<Integer> ticksOf(Task task) {
        Deque<Integer> ticks = new ArrayDeque<>();
        ticks.add(0);
        for (Map.Entry<Integer, Integer> use : task.lengths.entrySet()) {
            for (int k = 0; k < Math.min(3, use.getValue()); k++) {
                ticks.add(use.getKey());
            }
            ticks.add(0);
        }
        return ticks;
    }

    private void trialTick(Task runner, Deque<Integer> ticks, List<Task> started, List<Set<Integer>> delays) {
        int resource = ticks.remove();
        if (resource != 0) {
            if (runner.held.isEmpty()) {
                runner.held.push(resource);
            }
            for (Task other : started) {
                if (other.core == runner.core && other.rank > runner.rank) {
                    delays.get(other.number - 1).add(100 * runner.number + resource);
                }
            }
        }
        if (ticks.isEmpty()) {
            started.remove(runner);
        } else if (ticks.peek() == 0) {
            runner.held.clear();
        }
    }

    private Task find(int number) {
        return number < 1 || number > tasks.size() ? null : tasks.get(number - 1);
    }

    private boolean unknownResource(int resource) {
        return resource < 1 || resource > resources;
    }
}
