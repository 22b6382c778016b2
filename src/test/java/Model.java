import java.util.ArrayList;
import java.util.HashMap;
import java.util.List;
import java.util.Map;

/** The document's words, written down as slowly and as plainly as can be. */
final class Model {
    /** A move: its locations, its hand, its guard and its deed. */
    private static final class Move {
        int from;
        int to;
        int hand;
        int[] guard = {0, 0, 0};
        int[] deed = {0, 0, 0};
    }

    /** A step: target, process, move, other process, other move. */
    private record Step(int target, int process, int move, int other, int otherMove) {
        boolean isTakenBy(int p) {
            return process == p || other == p;
        }

        int part(int what) {
            return new int[] {target, process, move, other, otherMove}[what];
        }
    }

    private final List<Integer> locations = new ArrayList<>();
    private final List<List<Move>> moves = new ArrayList<>();
    private final List<int[]> variables = new ArrayList<>();
    private final List<int[]> facts = new ArrayList<>();

    /** A state: five locations, then the values; null if it is unexplored. */
    private List<List<Integer>> states;
    private List<List<Step>> steps;
    private List<int[]> foundBy;

    int addProcess(int n) {
        argument(n >= 1 && n <= 8);
        state(locations.size() < 5);
        states = null;
        locations.add(n);
        moves.add(new ArrayList<>());
        return locations.size() - 1;
    }

    int addVariable(int greatest, int begin) {
        argument(greatest >= 1 && greatest <= 9 && begin >= 0 && begin <= greatest);
        state(variables.size() < 4);
        states = null;
        variables.add(new int[] {greatest, begin});
        return variables.size() - 1;
    }

    int addMove(int process, int from, int to, int hand) {
        index(isIn(process, locations));
        int n = locations.get(process);
        argument(from >= 0 && from < n && to >= 0 && to < n && hand >= 0 && hand <= 9);
        state(moves.get(process).size() < 16);
        states = null;
        Move m = new Move();
        m.from = from;
        m.to = to;
        m.hand = hand;
        moves.get(process).add(m);
        return moves.get(process).size() - 1;
    }

    int guard(int process, int move, int sort, int variable, int number) {
        index(isIn(process, locations) && isIn(move, moves.get(process)));
        argument(sort >= 0 && sort <= 4 && (sort == 0 || isIn(variable, variables)) && number >= 0 && number <= 9);
        states = null;
        Move m = moves.get(process).get(move);
        int before = m.guard[0];
        m.guard = new int[] {sort, variable, number};
        return before;
    }

    int deed(int process, int move, int sort, int variable, int number) {
        index(isIn(process, locations) && isIn(move, moves.get(process)));
        argument(sort >= 0 && sort <= 2 && (sort == 0 || isIn(variable, variables)) && number >= -9 && number <= 9);
        states = null;
        Move m = moves.get(process).get(move);
        int before = m.deed[0];
        m.deed = new int[] {sort, variable, number};
        return before;
    }

    int count(int what) {
        index(what >= 0 && what <= 5);
        switch (what) {
            case 0: return locations.size();
            case 1: return variables.size();
            case 2: return moves.stream().mapToInt(List::size).sum();
            case 3: return facts.size();
            case 4: return states == null ? 0 : states.size();
            default: return states == null ? 0 : steps.stream().mapToInt(List::size).sum();
        }
    }

    private boolean isOpen(List<Integer> state, int process, Move m) {
        if (state.get(process) != m.from) {
            return false;
        }
        if (m.guard[0] != 0) {
            int value = state.get(5 + m.guard[1]);
            int number = m.guard[2];
            boolean allows = m.guard[0] == 1 ? value == number : m.guard[0] == 2 ? value != number
                : m.guard[0] == 3 ? value < number : value > number;
            if (!allows) {
                return false;
            }
        }
        return afterDeed(state, m) != null;
    }

    private List<Integer> afterDeed(List<Integer> state, Move m) {
        List<Integer> after = new ArrayList<>(state);
        if (m.deed[0] != 0) {
            int v = m.deed[1];
            int value = m.deed[0] == 1 ? m.deed[2] : state.get(5 + v) + m.deed[2];
            if (value < 0 || value > variables.get(v)[0]) {
                return null;
            }
            after.set(5 + v, value);
        }
        return after;
    }

    int explore() {
        state(!locations.isEmpty());
        List<Integer> begin = new ArrayList<>(List.of(0, 0, 0, 0, 0));
        for (int[] v : variables) {
            begin.add(v[1]);
        }
        Map<List<Integer>, Integer> numbers = new HashMap<>();
        states = new ArrayList<>();
        steps = new ArrayList<>();
        foundBy = new ArrayList<>();
        states.add(begin);
        foundBy.add(null);
        numbers.put(begin, 0);
        for (int s = 0; s < states.size(); s++) {
            List<Step> own = new ArrayList<>();
            for (Object[] found : found(states.get(s))) {
                @SuppressWarnings("unchecked")
                List<Integer> target = (List<Integer>) found[0];
                int[] by = (int[]) found[1];
                if (!numbers.containsKey(target)) {
                    numbers.put(target, states.size());
                    states.add(target);
                    foundBy.add(new int[] {s, own.size()});
                }
                own.add(new Step(numbers.get(target), by[0], by[1], by[2], by[3]));
            }
            steps.add(own);
            if (states.size() > 400) {
                states = null;
                return -1;
            }
        }
        return states.size();
    }

    private List<Object[]> found(List<Integer> state) {
        List<Object[]> found = new ArrayList<>();
        for (int a = 0; a < locations.size(); a++) {
            for (int i = 0; i < moves.get(a).size(); i++) {
                Move m = moves.get(a).get(i);
                if (!isOpen(state, a, m)) {
                    continue;
                }
                if (m.hand == 0) {
                    List<Integer> after = afterDeed(state, m);
                    after.set(a, m.to);
                    found.add(new Object[] {after, new int[] {a, i, -1, -1}});
                }
                for (int b = a + 1; b < locations.size() && m.hand != 0; b++) {
                    for (int j = 0; j < moves.get(b).size(); j++) {
                        Move n = moves.get(b).get(j);
                        List<Integer> after = n.hand == m.hand && isOpen(state, b, n)
                            ? afterDeed(afterDeed(state, m), n) : null;
                        if (after != null) {
                            after.set(a, m.to);
                            after.set(b, n.to);
                            found.add(new Object[] {after, new int[] {a, i, b, j}});
                        }
                    }
                }
            }
        }
        return found;
    }

    int state(int s, int what) {
        index(states != null && isIn(s, states) && what >= 0 && what <= 10);
        if (what == 9) {
            return steps.get(s).size();
        }
        if (what == 10) {
            return wayTo(s).size();
        }
        index(what < 5 ? what < locations.size() : what - 5 < variables.size());
        return states.get(s).get(what);
    }

    int step(int s, int step, int what) {
        index(states != null && isIn(s, states) && isIn(step, steps.get(s)) && what >= 0 && what <= 4);
        return steps.get(s).get(step).part(what);
    }

    int addFact(int sort, int a, int b) {
        argument(sort >= 0 && sort <= 5);
        if (sort == 0) {
            argument(isIn(a, locations) && b >= 0 && b < locations.get(a));
        } else if (sort <= 2) {
            argument(isIn(a, variables) && b >= 0 && b <= 9);
        } else if (sort == 3) {
            argument(isIn(a, facts) && b == 0);
        } else {
            argument(isIn(a, facts) && isIn(b, facts));
        }
        state(facts.size() < 12);
        facts.add(new int[] {sort, a, b});
        return facts.size() - 1;
    }

    private boolean isTrue(int fact, int s) {
        int[] f = facts.get(fact);
        switch (f[0]) {
            case 0: return states.get(s).get(f[1]) == f[2];
            case 1: return states.get(s).get(5 + f[1]) == f[2];
            case 2: return states.get(s).get(5 + f[1]) <= f[2];
            case 3: return !isTrue(f[1], s);
            case 4: return isTrue(f[1], s) && isTrue(f[2], s);
            default: return isTrue(f[1], s) || isTrue(f[2], s);
        }
    }

    boolean holds(int fact, int s) {
        index(isIn(fact, facts) && states != null && isIn(s, states));
        return isTrue(fact, s);
    }

    int where(int fact, boolean isFirst) {
        index(isIn(fact, facts));
        state(states != null);
        int number = 0;
        for (int s = 0; s < states.size(); s++) {
            if (isTrue(fact, s)) {
                if (isFirst) {
                    return s;
                }
                number++;
            }
        }
        return isFirst ? -1 : number;
    }

    int stuck() {
        state(states != null);
        for (int s = 0; s < states.size(); s++) {
            if (steps.get(s).isEmpty()) {
                return s;
            }
        }
        return -1;
    }

    int leads(int p, int q) {
        index(isIn(p, facts) && isIn(q, facts));
        state(states != null);
        boolean[] bad = bad(q);
        for (int s = 0; s < states.size(); s++) {
            if (bad[s] && isTrue(p, s)) {
                return s;
            }
        }
        return -1;
    }

    boolean isBad(int q, int s) {
        index(isIn(q, facts) && states != null && isIn(s, states));
        return bad(q)[s];
    }

    int trapped(int q) {
        index(isIn(q, facts));
        state(states != null);
        int number = 0;
        for (boolean is : trapStates(q)) {
            number += is ? 1 : 0;
        }
        return number;
    }

    /** The states to which one can come from s by at least one step, through the allowed ones alone. */
    private boolean[] reached(int s, boolean[] allowed) {
        boolean[] seen = new boolean[states.size()];
        List<Integer> open = new ArrayList<>(List.of(s));
        while (!open.isEmpty()) {
            for (Step step : steps.get(open.remove(open.size() - 1))) {
                if (allowed[step.target] && !seen[step.target]) {
                    seen[step.target] = true;
                    open.add(step.target);
                }
            }
        }
        return seen;
    }

    private boolean[] without(int q) {
        boolean[] without = new boolean[states.size()];
        for (int s = 0; s < without.length; s++) {
            without[s] = !isTrue(q, s);
        }
        return without;
    }

    private boolean[] trapStates(int q) {
        boolean[] without = without(q);
        boolean[][] reached = new boolean[states.size()][];
        int size = 0;
        for (int s = 0; s < without.length; s++) {
            if (without[s]) {
                reached[s] = reached(s, without);
                size++;
            }
        }
        boolean[] is = new boolean[states.size()];
        for (int s = 0; s < without.length; s++) {
            if (!without[s] || is[s]) {
                continue;
            }
            boolean[] set = new boolean[states.size()];
            for (int t = 0; t < set.length; t++) {
                set[t] = t == s || without[t] && reached[s][t] && reached[t][s];
            }
            if (steps.get(s).isEmpty() || reached[s][s] && isFairIn(set)) {
                for (int t = 0; t < set.length; t++) {
                    is[t] |= set[t];
                }
            }
        }
        if (size <= 8 && !java.util.Arrays.equals(is, trapStatesOfAllSets(without))) {
            throw new AssertionError("the greatest sets do not tell all traps");
        }
        return is;
    }

    /** By the very definition: each set of states without q is looked at. */
    private boolean[] trapStatesOfAllSets(boolean[] without) {
        List<Integer> own = new ArrayList<>();
        for (int s = 0; s < without.length; s++) {
            if (without[s]) {
                own.add(s);
            }
        }
        boolean[] is = new boolean[without.length];
        for (int bits = 1; bits < 1 << own.size(); bits++) {
            boolean[] set = new boolean[without.length];
            for (int i = 0; i < own.size(); i++) {
                set[own.get(i)] = (bits >> i & 1) == 1;
            }
            if (isTrap(set)) {
                for (int s = 0; s < set.length; s++) {
                    is[s] |= set[s];
                }
            }
        }
        for (int s : own) {
            is[s] |= steps.get(s).isEmpty();
        }
        return is;
    }

    private boolean isTrap(boolean[] set) {
        for (int s = 0; s < set.length; s++) {
            boolean[] reached = set[s] ? reached(s, set) : null;
            for (int t = 0; t < set.length; t++) {
                if (set[s] && set[t] && !reached[t]) {
                    return false;
                }
            }
        }
        return isFairIn(set);
    }

    private boolean isFairIn(boolean[] set) {
        for (int p = 0; p < locations.size(); p++) {
            boolean isFair = false;
            for (int s = 0; s < set.length; s++) {
                if (!set[s]) {
                    continue;
                }
                boolean isIdle = true;
                for (Step step : steps.get(s)) {
                    isIdle &= !step.isTakenBy(p);
                    isFair |= step.isTakenBy(p) && set[step.target];
                }
                isFair |= isIdle;
            }
            if (!isFair) {
                return false;
            }
        }
        return true;
    }

    private boolean[] bad(int q) {
        boolean[] without = without(q);
        boolean[] trap = trapStates(q);
        boolean[] bad = new boolean[states.size()];
        for (int s = 0; s < bad.length; s++) {
            if (without[s]) {
                boolean[] reached = reached(s, without);
                bad[s] = trap[s];
                for (int t = 0; t < bad.length; t++) {
                    bad[s] |= reached[t] && trap[t];
                }
            }
        }
        return bad;
    }

    private List<int[]> wayTo(int s) {
        List<int[]> way = new ArrayList<>();
        for (int t = s; t != 0; t = foundBy.get(t)[0]) {
            way.add(0, foundBy.get(t));
        }
        return way;
    }

    int way(int s, int index, int what) {
        index(states != null && isIn(s, states) && index >= 0 && index <= 400 && what >= 0 && what <= 1);
        List<int[]> way = wayTo(s);
        return index < way.size() ? way.get(index)[what] : -1;
    }

    double branching() {
        return states == null ? 0 : (double) count(5) / count(4);
    }

    long digest() {
        long d = 397;
        List<Integer> numbers = new ArrayList<>();
        for (int what = 0; what <= 5; what++) {
            numbers.add(count(what));
        }
        for (int s = 0; states != null && s < states.size(); s++) {
            numbers.addAll(states.get(s).subList(0, locations.size()));
            numbers.addAll(states.get(s).subList(5, 5 + variables.size()));
            numbers.add(steps.get(s).size());
            for (Step step : steps.get(s)) {
                for (int what = 0; what <= 4; what++) {
                    numbers.add(step.part(what));
                }
            }
        }
        for (int f = 0; states != null && f < facts.size(); f++) {
            numbers.add(where(f, false));
        }
        for (int x : numbers) {
            d = d * 31 + x;
        }
        return d;
    }

    private static boolean isIn(int i, List<?> list) {
        return i >= 0 && i < list.size();
    }

    private static void index(boolean isRight) {
        if (!isRight) {
            throw new IndexOutOfBoundsException();
        }
    }

    private static void argument(boolean isRight) {
        if (!isRight) {
            throw new IllegalArgumentException();
        }
    }

    private static void state(boolean isRight) {
        if (!isRight) {
            throw new IllegalStateException();
        }
    }
}
