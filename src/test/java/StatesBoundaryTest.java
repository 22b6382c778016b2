import java.util.Arrays;
import java.util.function.Supplier;

/** Promises 8, 9, 10 and 18, and the terms on steps: each boundary, at the last value in and at the first out. */
public final class StatesBoundaryTest {
    private static final Expect EXPECT = new Expect("StatesBoundaryTest");
    private static final Refusal REFUSAL = new Refusal(EXPECT);
    private static final int MOST = 400;

    public static void main(String[] args) {
        guardsOfAllValues();
        deedsOfAllValues();
        deedsOfPairs();
        guardsOfPairs();
        handsOfPairs();
        pairsOfTwoProcesses();
        orderOfMostSteps();
        movesFromOneLocationAlone();

        noProcess();
        fourHundredInARow();
        fourHundredAtOnce();
        tooManyUnexplores();
        tooManyThenFewer();
        stateOfOneNumberAlone();

        stateOfState();
        whatOfState();
        stepsOfState();
        depthOfState();

        stateOfStep();
        stepOfStep();
        whatOfStep();
        noOtherOfStep();
        greatestPartsOfStep();

        stateOfWay();
        indexOfWay();
        whatOfWay();
        endOfWay();
        firstStepOfWay();
        EXPECT.end();
    }

    // ---- the terms: moves and steps

    /** A process of two locations that goes from 0 to 1 by its only move, and one variable. */
    private static FairChecker oneMove(int greatest, int begin) {
        FairChecker x = new FairChecker();
        x.addProcess(2);
        x.addVariable(greatest, begin);
        x.addMove(0, 0, 1, 0);
        return x;
    }

    /** "1 the variable is equal to a number, 2 is not, 3 is less, 4 is greater". */
    private static void guardsOfAllValues() {
        for (int value = 0; value <= 9; value++) {
            for (int n = 0; n <= 9; n++) {
                boolean[] due = {true, value == n, value != n, value < n, value > n};
                for (int sort = 0; sort <= 4; sort++) {
                    FairChecker x = oneMove(9, value);
                    x.guard(0, 0, sort, 0, n);
                    EXPECT.same("8: " + value + " by the guard " + sort + " of " + n, x.explore(), due[sort] ? 2 : 1);
                }
            }
        }
    }

    /** "the deed would not lead to a value less than 0 or greater than the greatest one". */
    private static void deedsOfAllValues() {
        for (int greatest = 1; greatest <= 9; greatest++) {
            for (int value = 0; value <= greatest; value++) {
                for (int n = -9; n <= 9; n++) {
                    sameDeed(greatest, value, 0, n, value);
                    sameDeed(greatest, value, 1, n, n);
                    sameDeed(greatest, value, 2, n, value + n);
                }
            }
        }
    }

    private static void sameDeed(int greatest, int value, int sort, int n, int due) {
        String what = "8: " + value + " of " + greatest + " by the deed " + sort + " of " + n;
        FairChecker x = oneMove(greatest, value);
        x.deed(0, 0, sort, 0, n);
        boolean isIn = due >= 0 && due <= greatest;
        EXPECT.same(what, x.explore(), isIn ? 2 : 1);
        EXPECT.same(what, x.count(5), isIn ? 1 : 0);
        if (isIn) {
            EXPECT.same(what, x.state(1, 5), due);
        }
    }

    /** "the deed of a is done first, and that of b must not lead out of the range then, either". */
    private static void deedsOfPairs() {
        for (int value = 0; value <= 3; value++) {
            for (int a = -4; a <= 4; a++) {
                for (int b = -4; b <= 4; b++) {
                    for (int sorts = 0; sorts < 9; sorts++) {
                        samePair(value, sorts / 3, a, sorts % 3, b);
                    }
                }
            }
        }
    }

    private static int afterDeed(int value, int sort, int n) {
        int after = sort == 0 ? value : sort == 1 ? n : value + n;
        return after < 0 || after > 3 ? -1 : after;
    }

    private static void samePair(int value, int sortOfA, int a, int sortOfB, int b) {
        String what = "8: " + value + " by the pair " + sortOfA + " " + a + ", " + sortOfB + " " + b;
        FairChecker x = pair(3, value);
        x.deed(0, 0, sortOfA, 0, a);
        x.deed(1, 0, sortOfB, 0, b);
        // Both are open moves: each deed must be in the range by itself, too.
        int first = afterDeed(value, sortOfA, a);
        int due = first < 0 || afterDeed(value, sortOfB, b) < 0 ? -1 : afterDeed(first, sortOfB, b);
        EXPECT.same(what, x.explore(), due < 0 ? 1 : 2);
        EXPECT.same(what, x.count(5), due < 0 ? 0 : 1);
        if (due >= 0) {
            EXPECT.same(what, x.state(1, 5), due);
        }
    }

    private static FairChecker pair(int greatest, int begin) {
        FairChecker x = new FairChecker();
        x.addProcess(2);
        x.addProcess(2);
        x.addVariable(greatest, begin);
        x.addMove(0, 0, 1, 9);
        x.addMove(1, 0, 1, 9);
        return x;
    }

    /** "both guards are looked at ahead of both deeds". */
    private static void guardsOfPairs() {
        for (int n = 0; n <= 9; n++) {
            FairChecker x = pair(9, 4);
            x.deed(0, 0, 2, 0, 1);
            x.guard(1, 0, 1, 0, n);
            EXPECT.same("8: 4 by the guard of b, equal to " + n, x.explore(), n == 4 ? 2 : 1);
            FairChecker y = pair(9, 4);
            y.deed(1, 0, 2, 0, 1);
            y.guard(0, 0, 1, 0, n);
            EXPECT.same("8: 4 by the guard of a, equal to " + n, y.explore(), n == 4 ? 2 : 1);
        }
    }

    /** "with the same hand, 1 to 9"; "each open move with the hand 0". */
    private static void handsOfPairs() {
        for (int a = 0; a <= 9; a++) {
            for (int b = 0; b <= 9; b++) {
                FairChecker x = Protocols.idle(2);
                x.addMove(0, 0, 0, a);
                x.addMove(1, 0, 0, b);
                x.explore();
                int alone = (a == 0 ? 1 : 0) + (b == 0 ? 1 : 0);
                EXPECT.same("8: hands " + a + " and " + b, x.count(5), a == b && a > 0 ? 1 : alone);
                if (a == b) {
                    EXPECT.same("10: hands " + a + " and " + b, x.step(0, 0, 3), a > 0 ? 1 : -1);
                }
            }
        }
    }

    /** "each pair of open moves of two processes a < b": none of one process, each pair once. */
    private static void pairsOfTwoProcesses() {
        FairChecker x = Protocols.idle(1);
        x.addMove(0, 0, 0, 1);
        x.addMove(0, 0, 0, 1);
        x.explore();
        EXPECT.same("8: no pair within a process", x.count(5), 0);
        for (int a = 0; a < 5; a++) {
            for (int b = a + 1; b < 5; b++) {
                FairChecker y = Protocols.idle(5);
                y.addMove(b, 0, 0, 9);
                y.addMove(a, 0, 0, 9);
                y.explore();
                EXPECT.same("8: one pair of " + a + " and " + b, y.count(5), 1);
                EXPECT.same("10: a of the pair", y.step(0, 0, 1), a);
                EXPECT.same("10: b of the pair", y.step(0, 0, 3), b);
            }
        }
    }

    /** "by the process (of a pair that of a), then by its move, then by the other process, then by its move". */
    private static void orderOfMostSteps() {
        int step = 0;
        // All steps of one state are asked for; an object is used for 512 calls alone.
        FairChecker x = null;
        for (int a = 0; a < 5; a++) {
            for (int move = 0; move < 16; move++) {
                for (int b = a + 1; b < 5; b++) {
                    for (int other = 0; other < 16; other++) {
                        if (step % 64 == 0) {
                            x = Protocols.dearest(3);
                            x.explore();
                        }
                        sameStep(x, 0, step, a, move, b, other);
                        step++;
                    }
                }
            }
        }
        EXPECT.same("9: number of its steps", x.state(0, 9), step);
    }

    private static void sameStep(FairChecker x, int state, int step, int... due) {
        for (int what = 1; what <= 4; what++) {
            String text = "10: step(" + state + ", " + step + ", " + what + ")";
            EXPECT.same(text, x.step(state, step, what), due[what - 1]);
        }
    }

    /** "if its process is at the location from which it goes": no other one will do. */
    private static void movesFromOneLocationAlone() {
        for (int from = 0; from <= 7; from++) {
            FairChecker x = new FairChecker();
            x.addProcess(8);
            x.addProcess(8);
            x.addMove(0, from, (from + 1) % 8, 0);
            x.addMove(1, from, (from + 1) % 8, 0);
            EXPECT.same("8: from " + from, x.explore(), from == 0 ? 4 : 1);
        }
    }

    // ---- promise 8

    /** "if there is no process": variables and facts alone will not do, the first process will. */
    private static void noProcess() {
        Supplier<FairChecker> maker = () -> {
            FairChecker x = new FairChecker();
            for (int v = 0; v < 4; v++) {
                x.addVariable(9, 9);
                x.addFact(1, v, 9);
            }
            return x;
        };
        REFUSAL.refused("8: no process", Expect.STATE, maker, FairChecker::explore);
        REFUSAL.refused("8: a new object", Expect.STATE, FairChecker::new, FairChecker::explore);
        FairChecker x = maker.get();
        EXPECT.fails("8: no process", Expect.STATE, x::explore);
        x.addProcess(1);
        EXPECT.same("8: one process", x.explore(), 1);
        EXPECT.same("13: and its facts", x.where(3, false), 1);
    }

    /** "-1 if there would be more than 400": 400 are still in, and 401 are not. */
    private static void fourHundredInARow() {
        FairChecker x = Protocols.chain();
        EXPECT.same("8: a chain of 400", x.explore(), MOST);
        EXPECT.same("8: count(4)", x.count(4), MOST);
        EXPECT.same("8: count(5)", x.count(5), MOST - 1);
        EXPECT.same("8: a round of 400", Protocols.round().explore(), MOST);
        EXPECT.same("8: a chain of 401", Protocols.tooLongChain().explore(), -1);
    }

    /** The same, if all are found from the state 0. */
    private static void fourHundredAtOnce() {
        FairChecker x = Protocols.wide(13, 11);
        EXPECT.same("8: 399 behind the first one", x.explore(), MOST);
        EXPECT.same("9: the steps of 0", x.state(0, 9), MOST - 1);
        EXPECT.same("9: the depth of the last one", x.state(MOST - 1, 10), 1);
        EXPECT.same("10: the last step", x.step(0, MOST - 2, 0), MOST - 1);
        EXPECT.same("18: by the last step", x.way(MOST - 1, 0, 1), MOST - 2);
        EXPECT.same("8: 400 behind the first one", Protocols.wide(12, 12).explore(), -1);
        EXPECT.same("8: 512 behind the first one", Protocols.wide(16, 16).explore(), -1);
    }

    /** "it is unexplored then"; "it ends, and nothing is explored". */
    private static void tooManyUnexplores() {
        FairChecker[] tooMany = {Protocols.tooLongChain(), Protocols.wide(12, 12), Protocols.dearest(4)};
        for (FairChecker x : tooMany) {
            int facts = x.count(3);
            long digest = x.digest();
            EXPECT.same("8: too many", x.explore(), -1);
            EXPECT.same("8: count(4)", x.count(4), 0);
            EXPECT.same("8: count(5)", x.count(5), 0);
            EXPECT.same("8: the facts stay", x.count(3), facts);
            EXPECT.same("8: digest()", x.digest(), digest);
            EXPECT.same("8: branching()", x.branching(), 0.0);
            EXPECT.fails("8: state", Expect.INDEX, () -> x.state(0, 9));
            EXPECT.fails("8: step", Expect.INDEX, () -> x.step(0, 0, 0));
            EXPECT.fails("8: way", Expect.INDEX, () -> x.way(0, 0, 0));
            EXPECT.fails("8: stuck", Expect.STATE, x::stuck);
            x.addFact(0, 0, 0);
            EXPECT.fails("8: holds", Expect.INDEX, () -> x.holds(0, 0) ? 1 : 0);
            EXPECT.fails("8: isBad", Expect.INDEX, () -> x.isBad(0, 0) ? 1 : 0);
            EXPECT.fails("8: where", Expect.STATE, () -> x.where(0, true));
            EXPECT.fails("8: leads", Expect.STATE, () -> x.leads(0, 0));
            EXPECT.fails("8: trapped", Expect.STATE, () -> x.trapped(0));
            EXPECT.same("8: too many again", x.explore(), -1);
        }
    }

    /** 400 states, then 401, then 400 again: what is told is of the last exploring alone. */
    private static void tooManyThenFewer() {
        FairChecker x = Protocols.chain();
        x.explore();
        long digest = x.digest();
        int move = x.addMove(1, 3, 4, 3);
        x.guard(1, move, 1, 1, 9);
        x.deed(0, 3, 0, 0, 0);
        EXPECT.same("8: 401 states", x.explore(), -1);
        EXPECT.same("8: count(4)", x.count(4), 0);
        x.guard(1, move, 4, 1, 9);
        EXPECT.same("8: 400 states again", x.explore(), MOST);
        FairChecker twin = Protocols.chain();
        twin.addMove(1, 3, 4, 8);
        twin.explore();
        EXPECT.same("8: all as in a twin", x.digest(), twin.digest());
        EXPECT.isTrue("20: a move more is another digest, that", x.digest() != digest);
    }

    /** "explore() numbers all states that can be come to: 0 is that at the beginning". */
    private static void stateOfOneNumberAlone() {
        FairChecker x = new FairChecker();
        x.addProcess(8);
        x.addVariable(9, 9);
        EXPECT.same("8: that at the beginning alone", x.explore(), 1);
        EXPECT.same("9: its location", x.state(0, 0), 0);
        EXPECT.same("9: its value", x.state(0, 5), 9);
        EXPECT.same("9: its steps", x.state(0, 9), 0);
        EXPECT.same("9: its depth", x.state(0, 10), 0);
    }

    // ---- promise 9

    /** "if there is no such state". */
    private static void stateOfState() {
        REFUSAL.outside("9: state", Expect.INDEX, Protocols::small, 0, 2, (x, s) -> x.state(s, 9));
        REFUSAL.outside("9: of 400", Expect.INDEX, Protocols.explored(Protocols::chain), 0, MOST - 1,
            (x, s) -> x.state(s, 0));
        REFUSAL.outside("9: unexplored", Expect.INDEX, Protocols::smallUnexplored, 0, -1, (x, s) -> x.state(s, 10));
        FairChecker x = Protocols.explored(Protocols::chain).get();
        EXPECT.same("9: the first of 400", x.state(0, 1) + x.state(0, 5) + x.state(0, 6), 0);
        EXPECT.same("9: the last of 400", x.state(MOST - 1, 1), 3);
        EXPECT.same("9: the last of 400", x.state(MOST - 1, 5), 9);
        EXPECT.same("9: the last of 400", x.state(MOST - 1, 6), 9);
    }

    /** "if there is no such .. process or variable, or what is not 0 to 10". */
    private static void whatOfState() {
        for (int processes = 1; processes <= 5; processes++) {
            for (int variables = 0; variables <= 4; variables++) {
                int n = processes;
                int v = variables;
                Supplier<FairChecker> maker = () -> {
                    FairChecker x = Protocols.idle(n);
                    for (int i = 0; i < v; i++) {
                        x.addVariable(9, 9 - i);
                    }
                    x.explore();
                    return x;
                };
                REFUSAL.outside("9: what", Expect.INDEX, maker, 0, 10, (x, w) -> x.state(0, w));
                for (int what = 0; what <= 10; what++) {
                    sameWhat(maker, n, v, what);
                }
            }
        }
    }

    private static void sameWhat(Supplier<FairChecker> maker, int processes, int variables, int what) {
        String text = "9: state(0, " + what + ") of " + processes + " and " + variables;
        boolean isIn = what < 5 ? what < processes : what >= 9 || what - 5 < variables;
        if (isIn) {
            EXPECT.same(text, maker.get().state(0, what), what < 5 || what >= 9 ? 0 : 9 - (what - 5));
        } else {
            REFUSAL.refused(text, Expect.INDEX, maker, x -> x.state(0, what));
        }
    }

    /** "9 the number of its steps": none, and the most that there may be. */
    private static void stepsOfState() {
        FairChecker x = Protocols.dearest(3);
        x.explore();
        EXPECT.same("9: steps of the first one", x.state(0, 9), 2560);
        EXPECT.same("9: steps of the last one", x.state(MOST - 1, 9), 2560);
        FairChecker y = Protocols.chain();
        y.explore();
        EXPECT.same("9: one step", y.state(MOST - 2, 9), 1);
        EXPECT.same("9: no steps", y.state(MOST - 1, 9), 0);
    }

    /** "10 the least number of steps that lead to it from 0": 0 to 399. */
    private static void depthOfState() {
        FairChecker x = Protocols.round();
        x.explore();
        for (int s = 0; s < MOST; s++) {
            EXPECT.same("9: depth of " + s, x.state(s, 10), s);
        }
    }

    // ---- promise 10

    /** "if there is no such state". */
    private static void stateOfStep() {
        REFUSAL.outside("10: state", Expect.INDEX, Protocols::small, 0, 2, (x, s) -> x.step(s, 0, 0));
        REFUSAL.outside("10: of 400", Expect.INDEX, Protocols.explored(Protocols::round), 0, MOST - 1,
            (x, s) -> x.step(s, 0, 0));
        REFUSAL.outside("10: unexplored", Expect.INDEX, Protocols::smallUnexplored, 0, -1, (x, s) -> x.step(s, 0, 0));
        FairChecker x = Protocols.explored(Protocols::round).get();
        EXPECT.same("10: from the first of 400", x.step(0, 0, 0), 1);
        EXPECT.same("10: from the last of 400", x.step(MOST - 1, 0, 0), 0);
    }

    /** "if there is no such .. step": of this state, though another one may have more. */
    private static void stepOfStep() {
        REFUSAL.outside("10: step of one", Expect.INDEX, Protocols::small, 0, 0, (x, i) -> x.step(0, i, 0));
        REFUSAL.outside("10: step of none", Expect.INDEX, Protocols::small, 0, -1, (x, i) -> x.step(2, i, 0));
        REFUSAL.outside("10: step of 80", Expect.INDEX, Protocols::full, 0, 79, (x, i) -> x.step(0, i, 4));
        FairChecker dearest = Protocols.dearest(3);
        dearest.explore();
        for (int s : new int[] {0, 1, MOST - 1}) {
            EXPECT.same("10: the first of 2560", dearest.step(s, 0, 4), 0);
            EXPECT.same("10: the last of 2560", dearest.step(s, 2559, 4), 15);
            EXPECT.fails("10: one ahead of the first", Expect.INDEX, () -> dearest.step(s, -1, 4));
            EXPECT.fails("10: one behind the last", Expect.INDEX, () -> dearest.step(s, 2560, 4));
        }
        FairChecker x = Protocols.explored(() -> Protocols.wide(1, 2)).get();
        EXPECT.same("10: the last of many", x.step(0, 257, 0), 258);
        EXPECT.fails("10: behind many", Expect.INDEX, () -> x.step(0, 258, 0));
        EXPECT.fails("10: behind none", Expect.INDEX, () -> x.step(1, 0, 0));
    }

    /** "what is not 0 to 4". */
    private static void whatOfStep() {
        REFUSAL.outside("10: what", Expect.INDEX, Protocols::small, 0, 4, (x, w) -> x.step(0, 0, w));
        REFUSAL.outside("10: what of a pair", Expect.INDEX, Protocols::small, 0, 4, (x, w) -> x.step(1, 0, w));
    }

    /** "3 the other process of a pair, -1 for none, 4 its move, -1 for none". */
    private static void noOtherOfStep() {
        FairChecker x = Protocols.small();
        int[][] due = {{1, 0, 0, -1, -1}, {2, 0, 1, 1, 0}};
        for (int what = 0; what <= 4; what++) {
            EXPECT.same("10: alone", x.step(0, 0, what), due[0][what]);
            EXPECT.same("10: of a pair", x.step(1, 0, what), due[1][what]);
        }
    }

    /** The greatest process, move and state that a step can tell; alone, and of a pair. */
    private static void greatestPartsOfStep() {
        FairChecker x = Protocols.full();
        int[] alone = {0, 4, 15, -1, -1};
        FairChecker y = Protocols.dearest(3);
        y.explore();
        int[] pair = {MOST - 1, 3, 15, 4, 15};
        for (int what = 0; what <= 4; what++) {
            EXPECT.same("10: the greatest alone", x.step(0, 79, what), alone[what]);
            EXPECT.same("10: the greatest pair", y.step(MOST - 1, 2559, what), pair[what]);
        }
    }

    // ---- promise 18

    /** "if there is no such state". */
    private static void stateOfWay() {
        REFUSAL.outside("18: state", Expect.INDEX, Protocols::small, 0, 2, (x, s) -> x.way(s, 0, 0));
        REFUSAL.outside("18: of 400", Expect.INDEX, Protocols.explored(Protocols::chain), 0, MOST - 1,
            (x, s) -> x.way(s, 0, 0));
        REFUSAL.outside("18: unexplored", Expect.INDEX, Protocols::smallUnexplored, 0, -1, (x, s) -> x.way(s, 0, 0));
    }

    /** "index is not 0 to 400". */
    private static void indexOfWay() {
        REFUSAL.outside("18: index", Expect.INDEX, Protocols::small, 0, 400, (x, i) -> x.way(2, i, 0));
        REFUSAL.outside("18: index", Expect.INDEX, Protocols::small, 0, 400, (x, i) -> x.way(0, i, 1));
        REFUSAL.outside("18: index", Expect.INDEX, Protocols.explored(Protocols::chain), 0, 400,
            (x, i) -> x.way(MOST - 1, i, 0));
        for (int index : new int[] {2, 3, 399, 400}) {
            EXPECT.same("18: index " + index, Protocols.small().way(2, index, 0), -1);
            EXPECT.same("18: index " + index, Protocols.small().way(2, index, 1), -1);
        }
    }

    /** "what is not 0 to 1": behind the end of the way, too. */
    private static void whatOfWay() {
        REFUSAL.outside("18: what", Expect.INDEX, Protocols::small, 0, 1, (x, w) -> x.way(2, 0, w));
        REFUSAL.outside("18: what behind the end", Expect.INDEX, Protocols::small, 0, 1, (x, w) -> x.way(0, 400, w));
    }

    /** "-1 behind the end of the way": the shortest ways, of no steps and of one, and the longest one. */
    private static void endOfWay() {
        for (int what = 0; what <= 1; what++) {
            FairChecker x = Protocols.chain();
            x.explore();
            for (int state : new int[] {0, 1, 2, 10, 100, MOST - 2, MOST - 1}) {
                EXPECT.same("18: behind the end", x.way(state, state, what), -1);
                EXPECT.same("18: behind the end", x.way(state, 400, what), -1);
                if (state > 0) {
                    int due = what == 0 ? state - 1 : 0;
                    EXPECT.same("18: the last step of the way", x.way(state, state - 1, what), due);
                    EXPECT.same("18: the first step of the way", x.way(state, 0, what), 0);
                }
            }
        }
        FairChecker y = Protocols.round();
        y.explore();
        for (int i = 0; i < MOST - 1; i++) {
            EXPECT.same("18: the longest way", y.way(MOST - 1, i, 0), i);
        }
        EXPECT.same("18: its end", y.way(MOST - 1, MOST - 1, 0), -1);
    }

    /** "of several the one of which each state was the first to lead to the next one, .. by its first such step". */
    private static void firstStepOfWay() {
        FairChecker x = Protocols.idle(1);
        x.addVariable(2, 0);
        // 0 leads to 1 by both its steps; 1 leads to itself by two steps, then to 2 by two more.
        int[] deeds = {0, 0, 1, 1};
        for (int m = 0; m < deeds.length; m++) {
            x.addMove(0, 0, 0, 0);
            x.deed(0, m, 2, 0, deeds[m]);
        }
        x.guard(0, 0, 4, 0, 0);
        x.guard(0, 1, 4, 0, 0);
        EXPECT.same("8: three states", x.explore(), 3);
        int[][] due = {{0, 0}, {1, 2}};
        for (int i = 0; i < due.length; i++) {
            EXPECT.isTrue("18: step " + i + " of the way is " + Arrays.toString(due[i]) + ", that",
                x.way(2, i, 0) == due[i][0] && x.way(2, i, 1) == due[i][1]);
        }
        EXPECT.same("9: the steps of 0", x.state(0, 9), 2);
    }
}
